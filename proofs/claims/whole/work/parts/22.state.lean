/-! the class's state in a world -/
def ah_C (D : ah_G) (F : ah_F) (x : Nat) (P : ah_Pt) (n : Nat) (dr S : List Nat) (td : Int32) : Prop :=
  ∃ (b ra st la ch cp cl tx ta dw : Nat) (rf : Nat → Option Nat) (lf : Nat → Int64) (pf : Nat → Option Nat) (plf tf : Nat → Int32) (cc tc pr : Nat),
    F x = some (.inr (6, [.ref b, .ref st, .ref ch, .ref tx, .ref dw, .int td])) ∧ F b = some (.inr (0, [.ref ra, .int (nI n), .int (nI pr)])) ∧ F ra = some (ah_aq D 40 rf) ∧ ah_rows F rf P ∧
    F st = some (.inr (3, [.ref la, .int (nI S.length)])) ∧ F la = some (ah_al D 201 lf) ∧ ah_str lf S ∧
    F ch = some (.inr (1, [.ref cp, .ref cl, .int (nI cc)])) ∧ F cp = some (ah_aq D 200 pf) ∧ F cl = some (ah_ai D 200 plf) ∧
    F tx = some (.inr (4, [.ref ta, .int (nI tc)])) ∧ F ta = some (ah_ac D 1600 tf) ∧ ah_wd F dw dr ∧ ah_ok dr ∧ n ≤ 40 ∧ (∀ i, n ≤ i → P i = none) ∧ pr = pu_cn (fun i => (P i).isSome) 40 ∧ pr ≤ 20
/-- the law's own cell stays -/
def ah_out (D : ah_G) (F F1 : ah_F) : Prop := ∀ (o : Nat) (f : Nat → Int64), F o = some (ah_al D 1 f) → F1 o = F o
theorem ah_out_r (D : ah_G) (F : ah_F) : ah_out D F F := fun _ _ _ => rfl
theorem ah_out_t {D : ah_G} {F F1 F2 : ah_F} (h : ah_out D F F1) (h2 : ah_out D F1 F2) : ah_out D F F2 := fun o f ho => by
  have e := h o f ho
  rw [h2 o f (e.trans ho), e]
def ah_no (D : ah_G) (F : ah_F) (a : Nat) : Prop := ∀ f : Nat → Int64, F a ≠ some (ah_al D 1 f)
theorem ah_no_n {D : ah_G} {F : ah_F} {a : Nat} (h : F a = none) : ah_no D F a := fun f q => by rw [h] at q; cases q
theorem ah_no_t {D : ah_G} {F : ah_F} {a : Nat} {e : va_E} (h : F a = some e) (h2 : Nat.beq (ah_tag e) 1011 = false) : ah_no D F a := fun f q => by
  rw [h] at q
  cases q
  exact absurd h2 (by show ¬ Nat.beq 1011 1011 = false; decide)
theorem ah_out_c {D : ah_G} {F F1 : ah_F} {L : List Nat} (h : ah_ch F F1 L) (hL : ∀ a ∈ L, ah_no D F a) : ah_out D F F1 := fun o f ho => h o (fun hm => hL o hm f ho)
/-- a pattern's number, if there is one -/
def ah_pi (P : ah_Pt) (x : Int32) : Option Nat := (ah_ix x).bind (fun i => if (P i).isSome then some i else none)
theorem ah_pi_n {F : ah_F} {rf : Nat → Option Nat} {P : ah_Pt} (h : ah_rows F rf P) {x : Int32} (e : (ah_ix x).bind rf = none) : ah_pi P x = none := by
  unfold ah_pi
  cases hx : ah_ix x with
  | none => rfl
  | some i =>
    rw [hx] at e
    have e : rf i = none := e
    have := h.n (ah_ix_s hx).1 e
    simp [this]
theorem ah_pi_s {F : ah_F} {rf : Nat → Option Nat} {P : ah_Pt} (h : ah_rows F rf P) {x : Int32} {q : Nat} (e : (ah_ix x).bind rf = some q) : ∃ (i : Nat) (w r : List Nat) (lw lr : Nat), ah_pi P x = some i ∧ i < 40 ∧ x = nI i ∧ rf i = some q ∧ P i = some (w, r) ∧ F q = some (.inr (2, [.int (nI i), .ref lw, .ref lr])) ∧ ah_wd F lw w ∧ ah_wd F lr r ∧ ah_ok w ∧ ah_ok r ∧ w ≠ [] := by
  cases hx : ah_ix x with
  | none => rw [hx] at e; cases e
  | some i =>
    rw [hx] at e
    have e : rf i = some q := e
    obtain ⟨h1, h2⟩ := ah_ix_s hx
    obtain ⟨w, r, lw, lr, h3, h4⟩ := h.s h1 e
    exact ⟨i, w, r, lw, lr, by simp [ah_pi, hx, h3], h1, h2, e, h3, h4⟩
theorem ah_pi_lt {P : ah_Pt} {x : Int32} {i : Nat} (h : ah_pi P x = some i) : i < 40 ∧ x = nI i ∧ (P i).isSome = true := by
  unfold ah_pi at h
  cases hx : ah_ix x with
  | none => rw [hx] at h; cases h
  | some j =>
    rw [hx] at h
    have h : (if (P j).isSome then some j else none) = some i := h
    split at h
    · next hp => cases h; exact ⟨(ah_ix_s hx).1, (ah_ix_s hx).2, hp⟩
    · cases h
def ah_ov (u w : List Nat) : Nat → Nat
  | 0 => 0
  | n + 1 => if ah_bw (u.drop (u.length - (n + 1))) w then n + 1 else ah_ov u w n
theorem ah_ov_t {u w : List Nat} {c : Nat} (h0 : 0 < c) (h : ah_bw (u.drop (u.length - c)) w = true) : ah_ov u w c = c := by
  obtain ⟨n, rfl⟩ : ∃ n, c = n + 1 := ⟨c - 1, by omega⟩
  rw [ah_ov, if_pos h]
theorem ah_ov_f {u w : List Nat} {c : Nat} (h0 : 0 < c) (h : ah_bw (u.drop (u.length - c)) w = false) : ah_ov u w (c - 1) = ah_ov u w c := by
  obtain ⟨n, rfl⟩ : ∃ n, c = n + 1 := ⟨c - 1, by omega⟩
  rw [ah_ov, if_neg (by rw [h]; decide)]
  rfl
