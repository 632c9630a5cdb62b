/-! words of letters as numbers: five bits a letter, the last letter lowest; letters are 1 to 26 -/
def ah_lt (w : List Nat) : Prop := ∀ x ∈ w, 1 ≤ x ∧ x ≤ 26
def ah_ok (w : List Nat) : Prop := w.length ≤ 8 ∧ ah_lt w
def ah_enc (w : List Nat) : Nat := w.foldl (fun c x => c * 32 + x) 0
theorem ah_enc_snoc (u : List Nat) (x : Nat) : ah_enc (u ++ [x]) = ah_enc u * 32 + x := by simp [ah_enc, List.foldl_append]
theorem ah_enc_nil : ah_enc [] = 0 := rfl
theorem ah_snoc (u : List Nat) : u = [] ∨ ∃ v x, u = v ++ [x] := by
  rcases List.eq_nil_or_concat u with h | ⟨v, x, h⟩
  · exact Or.inl h
  · exact Or.inr ⟨v, x, by simpa using h⟩
theorem ah_enc_app (u v : List Nat) : ah_enc (u ++ v) = ah_enc u * 32 ^ v.length + ah_enc v := by
  induction hv : v.length generalizing v with
  | zero =>
    have : v = [] := List.length_eq_zero_iff.mp hv
    subst this; simp [ah_enc]
  | succ n ih =>
    rcases ah_snoc v with h | ⟨v', x, h⟩
    · subst h; simp at hv
    · subst h
      have hl : v'.length = n := by simpa using hv
      rw [← List.append_assoc, ah_enc_snoc, ah_enc_snoc, ih v' hl, Nat.pow_succ, Nat.add_mul, Nat.mul_assoc, Nat.add_assoc]
theorem ah_lt_app {u v : List Nat} : ah_lt (u ++ v) ↔ ah_lt u ∧ ah_lt v := by
  unfold ah_lt
  constructor
  · intro h
    exact ⟨fun x hx => h x (List.mem_append_left _ hx), fun x hx => h x (List.mem_append_right _ hx)⟩
  · intro h x hx
    rcases List.mem_append.mp hx with q | q
    · exact h.1 x q
    · exact h.2 x q
theorem ah_lt_take {u : List Nat} (h : ah_lt u) (n : Nat) : ah_lt (u.take n) := fun x hx => h x (List.mem_of_mem_take hx)
theorem ah_lt_drop {u : List Nat} (h : ah_lt u) (n : Nat) : ah_lt (u.drop n) := fun x hx => h x (List.mem_of_mem_drop hx)
theorem ah_enc_lt : ∀ (n : Nat) (u : List Nat), u.length = n → ah_lt u → ah_enc u < 32 ^ n := by
  intro n
  induction n with
  | zero =>
    intro u hu _
    have : u = [] := List.length_eq_zero_iff.mp hu
    subst this; simp [ah_enc]
  | succ n ih =>
    intro u hu h
    rcases ah_snoc u with q | ⟨v, x, q⟩
    · subst q; simp at hu
    · subst q
      have hl : v.length = n := by simpa using hu
      have h1 := ih v hl (ah_lt_app.mp h).1
      have h2 := h x (by simp)
      rw [ah_enc_snoc, Nat.pow_succ]
      omega
theorem ah_enc_40 {u : List Nat} (h : ah_ok u) : ah_enc u < 2 ^ 40 := by
  have h1 := ah_enc_lt u.length u rfl h.2
  have h2 : (32 : Nat) ^ u.length ≤ 32 ^ 8 := Nat.pow_le_pow_right (by omega) h.1
  have h3 : (32 : Nat) ^ 8 = 2 ^ 40 := by decide
  omega
theorem ah_enc_inj : ∀ (n : Nat) (u v : List Nat), u.length = n → ah_lt u → ah_lt v → ah_enc u = ah_enc v → u = v := by
  intro n
  induction n with
  | zero =>
    intro u v hu _ hv e
    have : u = [] := List.length_eq_zero_iff.mp hu
    subst this
    rcases ah_snoc v with q | ⟨v', y, q⟩
    · exact q.symm
    · subst q
      have h2 := hv y (by simp)
      rw [ah_enc_snoc, ah_enc_nil] at e
      omega
  | succ n ih =>
    intro u v hu h hv e
    rcases ah_snoc u with q | ⟨u', x, q⟩
    · subst q; simp at hu
    · subst q
      have hl : u'.length = n := by simpa using hu
      have hx := h x (by simp)
      rcases ah_snoc v with q | ⟨v', y, q⟩
      · subst q
        rw [ah_enc_snoc, ah_enc_nil] at e
        omega
      · subst q
        have hy := hv y (by simp)
        rw [ah_enc_snoc, ah_enc_snoc] at e
        have e1 : x = y := by omega
        have e2 : ah_enc u' = ah_enc v' := by omega
        rw [ih u' v' hl (ah_lt_app.mp h).1 (ah_lt_app.mp hv).1 e2, e1]
theorem ah_enc_eq {u v : List Nat} (hu : ah_lt u) (hv : ah_lt v) : ah_enc u = ah_enc v ↔ u = v := ⟨ah_enc_inj u.length u v rfl hu hv, fun h => by rw [h]⟩
theorem ah_enc_div {w : List Nat} (h : ah_lt w) (c : Nat) : ah_enc w / 32 ^ (w.length - c) = ah_enc (w.take c) := by
  have e : ah_enc w = ah_enc (w.take c) * 32 ^ (w.length - c) + ah_enc (w.drop c) := by
    have := ah_enc_app (w.take c) (w.drop c)
    rw [List.take_append_drop, List.length_drop] at this
    exact this
  have h2 := ah_enc_lt _ (w.drop c) List.length_drop (ah_lt_drop h c)
  rw [e, Nat.add_comm, Nat.add_mul_div_right _ _ (Nat.pow_pos (by omega)), Nat.div_eq_of_lt h2, Nat.zero_add]
theorem ah_enc_mod {w : List Nat} (h : ah_lt w) (k : Nat) : ah_enc w % 32 ^ k = ah_enc (w.drop (w.length - k)) := by
  by_cases hk : k ≤ w.length
  · have e : ah_enc w = ah_enc (w.take (w.length - k)) * 32 ^ k + ah_enc (w.drop (w.length - k)) := by
      have := ah_enc_app (w.take (w.length - k)) (w.drop (w.length - k))
      rw [List.take_append_drop, List.length_drop, show w.length - (w.length - k) = k by omega] at this
      exact this
    have h2 := ah_enc_lt _ (w.drop (w.length - k)) List.length_drop (ah_lt_drop h _)
    rw [show w.length - (w.length - k) = k by omega] at h2
    rw [e, Nat.add_comm, Nat.add_mul_mod_self_right, Nat.mod_eq_of_lt h2]
  · have e0 : w.length - k = 0 := by omega
    have h2 := ah_enc_lt _ w rfl h
    have h3 : (32 : Nat) ^ w.length ≤ 32 ^ k := Nat.pow_le_pow_right (by omega) (by omega)
    rw [e0, List.drop_zero, Nat.mod_eq_of_lt (by omega)]
/-! the world's pieces -/
abbrev ah_wd (F : ah_F) (a : Nat) (w : List Nat) : Prop := F a = some (.inr (5, [.long (lN (ah_enc w)), .int (nI w.length)]))
abbrev ah_Pt : Type := Nat → Option (List Nat × List Nat)
def ah_rows (F : ah_F) (rf : Nat → Option Nat) (P : ah_Pt) : Prop := ∀ i, i < 40 → (P i = none ∧ rf i = none) ∨ ∃ (w r : List Nat) (q lw rw : Nat), P i = some (w, r) ∧ rf i = some q ∧ F q = some (.inr (2, [.int (nI i), .ref lw, .ref rw])) ∧ ah_wd F lw w ∧ ah_wd F rw r ∧ ah_ok w ∧ ah_ok r ∧ w ≠ []
theorem ah_rows.n {F : ah_F} {rf : Nat → Option Nat} {P : ah_Pt} (h : ah_rows F rf P) {i : Nat} (hi : i < 40) (hq : rf i = none) : P i = none := by
  rcases h i hi with ⟨h1, h2⟩ | ⟨w, r, q, lw, rw, h1, h2, h3⟩
  · exact h1
  · rw [hq] at h2; cases h2
theorem ah_rows.s {F : ah_F} {rf : Nat → Option Nat} {P : ah_Pt} (h : ah_rows F rf P) {i q : Nat} (hi : i < 40) (hq : rf i = some q) : ∃ (w r : List Nat) (lw rw : Nat), P i = some (w, r) ∧ F q = some (.inr (2, [.int (nI i), .ref lw, .ref rw])) ∧ ah_wd F lw w ∧ ah_wd F rw r ∧ ah_ok w ∧ ah_ok r ∧ w ≠ [] := by
  rcases h i hi with ⟨h1, h2⟩ | ⟨w, r, q', lw, rw, h1, h2, h3⟩
  · rw [hq] at h2; cases h2
  · rw [hq] at h2; cases h2
    exact ⟨w, r, lw, rw, h1, h3⟩
theorem ah_rows.keep {F F1 : ah_F} {rf : Nat → Option Nat} {P : ah_Pt} (h : ah_rows F rf P) (hk : ∀ (a ci : Nat) (fs : List Value), (ci = 2 ∨ ci = 5) → F a = some (.inr (ci, fs)) → F1 a = some (.inr (ci, fs))) : ah_rows F1 rf P := by
  intro i hi
  rcases h i hi with h1 | ⟨w, r, q, lw, rw, h1, h2, h3, h4, h5, h6⟩
  · exact Or.inl h1
  · exact Or.inr ⟨w, r, q, lw, rw, h1, h2, hk _ _ _ (Or.inl rfl) h3, hk _ _ _ (Or.inr rfl) h4, hk _ _ _ (Or.inr rfl) h5, h6⟩
def ah_l8 (u : List Nat) : List Nat := u.drop (u.length - 8)
def ah_str (lf : Nat → Int64) (S : List Nat) : Prop := S.length ≤ 200 ∧ ah_lt S ∧ ∀ i, i ≤ S.length → lf i = lN (ah_enc (ah_l8 (S.take i)))
/-- a word stands at a place; ends at an end; begins another -/
def ah_at (S : List Nat) (i : Nat) (w : List Nat) : Bool := decide ((S.drop i).take w.length = w)
def ah_en (S : List Nat) (e : Nat) (w : List Nat) : Bool := decide (w.length ≤ e) && ah_at S (e - w.length) w
def ah_bw (u w : List Nat) : Bool := decide (w.take u.length = u)
theorem ah_l8_len (u : List Nat) : (ah_l8 u).length ≤ 8 := by simp only [ah_l8, List.length_drop]; omega
theorem ah_l8_ok {u : List Nat} (h : ah_lt u) : ah_ok (ah_l8 u) := ⟨ah_l8_len u, ah_lt_drop h _⟩
/-- the last k letters of the last eight, as a number -/
theorem ah_l8_mod {u : List Nat} (h : ah_lt u) {k : Nat} (hk : k ≤ 8) : ah_enc (ah_l8 u) % 32 ^ k = ah_enc (u.drop (u.length - k)) := by
  unfold ah_l8
  rw [ah_enc_mod (ah_lt_drop h _)]
  congr 1
  simp only [List.drop_drop, List.length_drop]
  congr 1
  omega
theorem ah_lN_eq {a b : Nat} (ha : a < 2 ^ 40) (hb : b < 2 ^ 40) : lN a = lN b ↔ a = b := pk_lEQ (by omega) (by omega)
theorem ah_en_eq {S w : List Nat} {e : Nat} (he : e ≤ S.length) (hS : ah_lt S) (hw : ah_ok w) : ah_enc (ah_l8 (S.take e)) % 32 ^ w.length = ah_enc w ↔ ah_en S e w = true := by
  have hT : ah_lt (S.take e) := ah_lt_take hS e
  have hl : (S.take e).length = e := by rw [List.length_take]; omega
  rw [ah_l8_mod hT hw.1, ah_enc_eq (ah_lt_drop hT _) hw.2, hl]
  simp only [ah_en, ah_at, Bool.and_eq_true, decide_eq_true_eq]
  constructor
  · intro h
    have h1 := congrArg List.length h
    rw [List.length_drop, hl] at h1
    have hle : w.length ≤ e := by omega
    refine ⟨hle, ?_⟩
    rw [List.drop_take, show e - (e - w.length) = w.length by omega] at h
    exact h
  · intro ⟨hle, h⟩
    rw [List.drop_take, show e - (e - w.length) = w.length by omega]
    exact h
theorem ah_at_en {S w : List Nat} {i : Nat} (h : i + w.length ≤ S.length) : ah_en S (i + w.length) w = ah_at S i w := by
  simp only [ah_en]
  rw [Nat.add_sub_cancel]
  simp
theorem ah_at_out {S w : List Nat} {i : Nat} (h : S.length < i + w.length) (hw : w ≠ []) : ah_at S i w = false := by
  simp only [ah_at, decide_eq_false_iff_not]
  intro q
  have h1 := congrArg List.length q
  rw [List.length_take, List.length_drop] at h1
  have : 0 < w.length := List.length_pos_iff.mpr hw
  omega
theorem ah_enc_pos {w : List Nat} (h : ah_lt w) (hw : w ≠ []) : ah_enc w ≠ 0 := by
  intro q
  exact hw (ah_enc_inj w.length w [] rfl h (fun x hx => by cases hx) (by rw [q]; rfl))
theorem ah_p32 (k : Nat) : 2 ^ (5 * k) = 32 ^ k := by rw [Nat.pow_mul]
theorem ah_i2c {n : Nat} (h : n < 65536) : ((nI n).toUInt32 % 65536).toInt32 = nI n := by rw [pk_char, pk_tn (by omega), Nat.mod_eq_of_lt h]
theorem ah_cmp0 {x y : Int64} : lg_cmp x y = 0 ↔ x = y := by
  unfold lg_cmp
  constructor
  · intro h
    split at h
    · exact absurd h (by decide)
    · split at h
      · assumption
      · exact absurd h (by decide)
  · intro h
    subst h
    rw [if_neg (Int64.lt_irrefl), if_pos rfl]
theorem ah_or5 {a x : Nat} (ha : a < 2 ^ 41) (hx : x < 32) : lN (a * 32) ||| lN x = lN (a * 32 + x) := g_or (k := 5) (p := 32) (by decide) hx (by omega)
theorem ah_sh5 (a : Nat) : lN a <<< ((nI 5).toInt64 &&& 63) = lN (a * 32) := wb_shl a (k := 5) (by omega)
theorem ah_up_u (F : ah_F) (a : Nat) (x y : va_E) : ah_up (ah_up F a x) a y = ah_up F a y := by
  funext q
  by_cases h : q = a
  · simp [ah_up, h]
  · simp [ah_up, h]
theorem ah_bw_1 {w u : List Nat} (hw : ah_ok w) (hu : ah_ok u) (_ : u.length ≤ w.length) (h : lN (ah_enc (w.take u.length)) = lN (ah_enc u)) : bI_ (ah_bw u w) = nI 1 := by
  have hT : ah_ok (w.take u.length) := ⟨by rw [List.length_take]; have := hw.1; omega, ah_lt_take hw.2 _⟩
  have e := (ah_enc_eq hT.2 hu.2).mp ((ah_lN_eq (ah_enc_40 hT) (ah_enc_40 hu)).mp h)
  simp [ah_bw, e]; rfl
theorem ah_bw_0 {w u : List Nat} (hw : ah_ok w) (hu : ah_ok u) (h : ¬ lN (ah_enc (w.take u.length)) = lN (ah_enc u)) : bI_ (ah_bw u w) = nI 0 := by
  have e : ¬ w.take u.length = u := fun q => h (by rw [q])
  simp [ah_bw, e]; rfl
theorem ah_bw_2 {w u : List Nat} (h : w.length < u.length) : bI_ (ah_bw u w) = nI 0 := by
  have e : ¬ w.take u.length = u := fun q => by
    have := congrArg List.length q
    rw [List.length_take] at this
    omega
  simp [ah_bw, e]; rfl
theorem ah_ok_take {w : List Nat} (h : ah_ok w) (k : Nat) : ah_ok (w.take k) := ⟨by rw [List.length_take]; have := h.1; omega, ah_lt_take h.2 k⟩
theorem ah_enc_last {w : List Nat} {i : Nat} (hi : i < w.length) (h : ah_lt w) : ah_enc (w.take (i + 1)) % 32 = w.getD i 0 := by
  have hx := h (w[i]) (List.getElem_mem hi)
  rw [List.take_add_one, List.getElem?_eq_getElem hi]
  show ah_enc (w.take i ++ [w[i]]) % 32 = _
  rw [ah_enc_snoc, List.getD_eq_getElem?_getD, List.getElem?_eq_getElem hi]
  show _ = w[i]
  omega
theorem ah_fr {F : ah_F} {q b : Nat} {x : va_E} (h : F q = none) (hb : F b = some x) : b ≠ q := fun e => by
  rw [e, h] at hb
  cases hb
