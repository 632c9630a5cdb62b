/-! the class's state in a world -/
def ah_C (D : ah_G) (F : ah_F) (x : Nat) (P : ah_Pt) (n : Nat) (dr S : List Nat) (td : Int32) : Prop :=
  ∃ (b ra st la ch cp cl tx ta dw : Nat) (rf : Nat → Option Nat) (lf : Nat → Int64) (pf : Nat → Option Nat) (plf tf : Nat → Int32) (cc tc pr : Nat),
    F x = some (.inr (6, [.ref b, .ref st, .ref ch, .ref tx, .ref dw, .int td])) ∧ F b = some (.inr (0, [.ref ra, .int (nI n), .int (nI pr)])) ∧ F ra = some (ah_aq D 40 rf) ∧ ah_rows F rf P ∧
    F st = some (.inr (3, [.ref la, .int (nI S.length)])) ∧ F la = some (ah_al D 201 lf) ∧ ah_str lf S ∧
    F ch = some (.inr (1, [.ref cp, .ref cl, .int (nI cc)])) ∧ F cp = some (ah_aq D 200 pf) ∧ F cl = some (ah_ai D 200 plf) ∧
    F tx = some (.inr (4, [.ref ta, .int (nI tc)])) ∧ F ta = some (ah_ac D 1600 tf) ∧ ah_wd F dw dr ∧ ah_ok dr ∧ n ≤ 40 ∧ (∀ i, n ≤ i → P i = none) ∧ pr = pu_cn (fun i => (P i).isSome) 40 ∧ pr ≤ 20
/-- the law's own cell stays -/
def ah_out (D : ah_G) (F F1 : ah_F) : Prop := ∀ (o : Nat) (f : Nat → Int32), F o = some (ah_ai D 42 f) → F1 o = F o
theorem ah_out_r (D : ah_G) (F : ah_F) : ah_out D F F := fun _ _ _ => rfl
theorem ah_out_t {D : ah_G} {F F1 F2 : ah_F} (h : ah_out D F F1) (h2 : ah_out D F1 F2) : ah_out D F F2 := fun o f ho => by
  have e := h o f ho
  rw [h2 o f (e.trans ho), e]
def ah_no (D : ah_G) (F : ah_F) (a : Nat) : Prop := ∀ f : Nat → Int32, F a ≠ some (ah_ai D 42 f)
theorem ah_no_n {D : ah_G} {F : ah_F} {a : Nat} (h : F a = none) : ah_no D F a := fun f q => by rw [h] at q; cases q
theorem ah_no_t {D : ah_G} {F : ah_F} {a : Nat} {e : va_E} (h : F a = some e) (h2 : Nat.beq (ah_tag e) 1420 = false) : ah_no D F a := fun f q => by
  rw [h] at q
  cases q
  exact absurd h2 (by show ¬ Nat.beq 1420 1420 = false; decide)
theorem ah_out_c {D : ah_G} {F F1 : ah_F} {L : List Nat} (h : ah_ch F F1 L) (hL : ∀ a ∈ L, ah_no D F a) : ah_out D F F1 := fun o f ho => h o (fun hm => hL o hm f ho)
/-- a pattern's number, if there is one -/
def ah_pi (P : ah_Pt) (x : Int32) : Option Nat := (ah_ix x).bind (fun i => if (P i).isSome then some i else none)
theorem ah_pi_n {F : ah_F} {rf : Nat → Option Nat} {P : ah_Pt} (h : ah_rows F rf P) {x : Int32} (e : (ah_ix x).bind rf = none) : ah_pi P x = none := by
  unfold ah_pi
  cases hx : ah_ix x with
  | none => rfl
  | some i =>
    rw [hx] at e
    have e : rf i = none := e
    have := h.n (ah_ix_s hx).1 e
    simp [this]
theorem ah_pi_s {F : ah_F} {rf : Nat → Option Nat} {P : ah_Pt} (h : ah_rows F rf P) {x : Int32} {q : Nat} (e : (ah_ix x).bind rf = some q) : ∃ (i : Nat) (w r : List Nat) (lw lr : Nat), ah_pi P x = some i ∧ i < 40 ∧ x = nI i ∧ rf i = some q ∧ P i = some (w, r) ∧ F q = some (.inr (2, [.int (nI i), .ref lw, .ref lr])) ∧ ah_wd F lw w ∧ ah_wd F lr r ∧ ah_ok w ∧ ah_ok r ∧ w ≠ [] := by
  cases hx : ah_ix x with
  | none => rw [hx] at e; cases e
  | some i =>
    rw [hx] at e
    have e : rf i = some q := e
    obtain ⟨h1, h2⟩ := ah_ix_s hx
    obtain ⟨w, r, lw, lr, h3, h4⟩ := h.s h1 e
    exact ⟨i, w, r, lw, lr, by simp [ah_pi, hx, h3], h1, h2, e, h3, h4⟩
theorem ah_pi_lt {P : ah_Pt} {x : Int32} {i : Nat} (h : ah_pi P x = some i) : i < 40 ∧ x = nI i ∧ (P i).isSome = true := by
  unfold ah_pi at h
  cases hx : ah_ix x with
  | none => rw [hx] at h; cases h
  | some j =>
    rw [hx] at h
    have h : (if (P j).isSome then some j else none) = some i := h
    split at h
    · next hp => cases h; exact ⟨(ah_ix_s hx).1, (ah_ix_s hx).2, hp⟩
    · cases h
def ah_ov (u w : List Nat) : Nat → Nat
  | 0 => 0
  | n + 1 => if ah_bw (u.drop (u.length - (n + 1))) w then n + 1 else ah_ov u w n
theorem ah_ov_t {u w : List Nat} {c : Nat} (h0 : 0 < c) (h : ah_bw (u.drop (u.length - c)) w = true) : ah_ov u w c = c := by
  obtain ⟨n, rfl⟩ : ∃ n, c = n + 1 := ⟨c - 1, by omega⟩
  rw [ah_ov, if_pos h]
theorem ah_ov_f {u w : List Nat} {c : Nat} (h0 : 0 < c) (h : ah_bw (u.drop (u.length - c)) w = false) : ah_ov u w (c - 1) = ah_ov u w c := by
  obtain ⟨n, rfl⟩ : ∃ n, c = n + 1 := ⟨c - 1, by omega⟩
  rw [ah_ov, if_neg (by rw [h]; decide)]
  rfl
theorem ah_all6 {Q : Nat → Prop} {x1 x2 x3 x4 x5 x6 : Nat} (h1 : Q x1) (h2 : Q x2) (h3 : Q x3) (h4 : Q x4) (h5 : Q x5) (h6 : Q x6) : ∀ a ∈ [x1, x2, x3, x4, x5, x6], Q a := by intro a ha; simp at ha; rcases ha with rfl | rfl | rfl | rfl | rfl | rfl <;> assumption
theorem ah_all7 {Q : Nat → Prop} {x1 x2 x3 x4 x5 x6 x7 : Nat} (h1 : Q x1) (h2 : Q x2) (h3 : Q x3) (h4 : Q x4) (h5 : Q x5) (h6 : Q x6) (h7 : Q x7) : ∀ a ∈ [x1, x2, x3, x4, x5, x6, x7], Q a := by intro a ha; simp at ha; rcases ha with rfl | rfl | rfl | rfl | rfl | rfl | rfl <;> assumption
theorem ah_nin7 {a x1 x2 x3 x4 x5 x6 x7 : Nat} (h1 : a ≠ x1) (h2 : a ≠ x2) (h3 : a ≠ x3) (h4 : a ≠ x4) (h5 : a ≠ x5) (h6 : a ≠ x6) (h7 : a ≠ x7) : a ∉ [x1, x2, x3, x4, x5, x6, x7] := by simp [h1, h2, h3, h4, h5, h6, h7]
theorem ah_all8 {Q : Nat → Prop} {x1 x2 x3 x4 x5 x6 x7 x8 : Nat} (h1 : Q x1) (h2 : Q x2) (h3 : Q x3) (h4 : Q x4) (h5 : Q x5) (h6 : Q x6) (h7 : Q x7) (h8 : Q x8) : ∀ a ∈ [x1, x2, x3, x4, x5, x6, x7, x8], Q a := by intro a ha; simp at ha; rcases ha with rfl | rfl | rfl | rfl | rfl | rfl | rfl | rfl <;> assumption
theorem ah_nin8 {a x1 x2 x3 x4 x5 x6 x7 x8 : Nat} (h1 : a ≠ x1) (h2 : a ≠ x2) (h3 : a ≠ x3) (h4 : a ≠ x4) (h5 : a ≠ x5) (h6 : a ≠ x6) (h7 : a ≠ x7) (h8 : a ≠ x8) : a ∉ [x1, x2, x3, x4, x5, x6, x7, x8] := by simp [h1, h2, h3, h4, h5, h6, h7, h8]
theorem ah_all9 {Q : Nat → Prop} {x1 x2 x3 x4 x5 x6 x7 x8 x9 : Nat} (h1 : Q x1) (h2 : Q x2) (h3 : Q x3) (h4 : Q x4) (h5 : Q x5) (h6 : Q x6) (h7 : Q x7) (h8 : Q x8) (h9 : Q x9) : ∀ a ∈ [x1, x2, x3, x4, x5, x6, x7, x8, x9], Q a := by intro a ha; simp at ha; rcases ha with rfl | rfl | rfl | rfl | rfl | rfl | rfl | rfl | rfl <;> assumption
theorem ah_nin9 {a x1 x2 x3 x4 x5 x6 x7 x8 x9 : Nat} (h1 : a ≠ x1) (h2 : a ≠ x2) (h3 : a ≠ x3) (h4 : a ≠ x4) (h5 : a ≠ x5) (h6 : a ≠ x6) (h7 : a ≠ x7) (h8 : a ≠ x8) (h9 : a ≠ x9) : a ∉ [x1, x2, x3, x4, x5, x6, x7, x8, x9] := by simp [h1, h2, h3, h4, h5, h6, h7, h8, h9]
theorem ah_lb_all {S : List Nat} : ah_lb S S.length = ah_enc (ah_l8 S) := by rw [ah_lb, if_pos (Nat.le_refl _), List.take_length]
/-- the pattern of the occurrence that ends with the stream and has x longer ones -/
def ah_ep (P : ah_Pt) (S : List Nat) (x : Int32) : Option Nat := (ah_kt (fun j => (ah_es P S (8 - j)).isSome) 8 x).bind (fun j => ah_es P S (8 - j))
theorem ah_ep_n {F : ah_F} {rf : Nat → Option Nat} {P : ah_Pt} {S : List Nat} {x : Int32} (h : ah_rows F rf P) (e : (ah_kt (fun j => (ah_es P S (8 - j)).isSome) 8 x).bind (fun j => (ah_es P S (8 - j)).bind rf) = none) : ah_ep P S x = none := by
  unfold ah_ep
  cases hk : ah_kt (fun j => (ah_es P S (8 - j)).isSome) 8 x with
  | none => rfl
  | some j =>
    rw [hk] at e
    exact ah_fst_bn h (Nat.le_refl _) e
theorem ah_ep_s {F : ah_F} {rf : Nat → Option Nat} {P : ah_Pt} {S : List Nat} {x : Int32} {q : Nat} (h : ah_rows F rf P) (e : (ah_kt (fun j => (ah_es P S (8 - j)).isSome) 8 x).bind (fun j => (ah_es P S (8 - j)).bind rf) = some q) : ∃ (i lw lr : Nat), ah_ep P S x = some i ∧ F q = some (.inr (2, [.int (nI i), .ref lw, .ref lr])) := by
  unfold ah_ep
  cases hk : ah_kt (fun j => (ah_es P S (8 - j)).isSome) 8 x with
  | none => rw [hk] at e; cases e
  | some j =>
    rw [hk] at e
    obtain ⟨i, w, r, lw, lr, h1, h2, h3, h4, h5, -⟩ := ah_fst_bs (f := fun w => decide (w.length = 8 - j) && ah_en S S.length w) h (b := q) e.symm
    exact ⟨i, lw, lr, h1, h5⟩
/-- occurrences by their ends; covered; certain: single passes, as the class goes -/
def ah_oc (P : ah_Pt) (S : List Nat) : Nat → Nat
  | 0 => 0
  | e + 1 => ah_oc P S e + pu_cn (ah_sat P (fun w => ah_en S (e + 1) w)) 40
theorem ah_oc_le (P : ah_Pt) (S : List Nat) : ∀ e, ah_oc P S e ≤ 40 * e
  | 0 => Nat.le_refl 0
  | e + 1 => by
    have := ah_oc_le P S e
    have := pu_cn_le (ah_sat P (fun w => ah_en S (e + 1) w)) 40
    rw [ah_oc]; omega
def ah_cvr (P : ah_Pt) (S : List Nat) (k rch : Nat) : Nat := match ah_n0 P S k with
  | none => rch
  | some j => max rch (k + (ah_w P j).length)
def ah_cv (P : ah_Pt) (S : List Nat) : Nat → Nat × Nat
  | 0 => (0, 0)
  | k + 1 => (ah_cvr P S k (ah_cv P S k).1, (ah_cv P S k).2 + (if k < ah_cvr P S k (ah_cv P S k).1 then 1 else 0))
theorem ah_cv_t {P : ah_Pt} {S : List Nat} {k a c r2 : Nat} (h : ah_cv P S k = (a, c)) (hr : ah_cvr P S k a = r2) (hk : k < r2) : ah_cv P S (k + 1) = (r2, c + 1) := by simp [ah_cv, h, hr, hk]
theorem ah_cv_f {P : ah_Pt} {S : List Nat} {k a c r2 : Nat} (h : ah_cv P S k = (a, c)) (hr : ah_cvr P S k a = r2) (hk : r2 ≤ k) : ah_cv P S (k + 1) = (r2, c) := by simp [ah_cv, h, hr, Nat.not_lt.mpr hk]
/-- whether the rest of the stream from k on begins a longer pattern -/
def ah_gr (P : ah_Pt) (S : List Nat) (k : Nat) : Bool := ah_any (ah_sat P (fun w => decide (S.length - k + 1 ≤ w.length) && ah_bw (S.drop k) w)) 40
def ah_ct (P : ah_Pt) (S : List Nat) : Nat → Nat × Nat × Bool
  | 0 => (0, 0, false)
  | k + 1 => if (ah_ct P S k).2.2 then ah_ct P S k else if (ah_ct P S k).1 ≤ k then (if ah_gr P S k then ((ah_ct P S k).1, (ah_ct P S k).2.1, true) else (match ah_n0 P S k with
    | none => ((ah_ct P S k).1, (ah_ct P S k).2.1 + 1, false)
    | some j => (k + (ah_w P j).length, (ah_ct P S k).2.1 + (ah_r P j).length, false))) else ah_ct P S k
theorem ah_ct_o {P : ah_Pt} {S : List Nat} {k fr c : Nat} (h : ah_ct P S k = (fr, c, false)) (hk : k < fr) : ah_ct P S (k + 1) = (fr, c, false) := by simp [ah_ct, h, Nat.not_le.mpr hk]
theorem ah_ct_g {P : ah_Pt} {S : List Nat} {k fr c : Nat} (h : ah_ct P S k = (fr, c, false)) (hk : fr ≤ k) (hg : ah_gr P S k = true) : ah_ct P S (k + 1) = (fr, c, true) := by simp [ah_ct, h, hk, hg]
theorem ah_ct_n {P : ah_Pt} {S : List Nat} {k fr c : Nat} (h : ah_ct P S k = (fr, c, false)) (hk : fr ≤ k) (hg : ah_gr P S k = false) (hn : ah_n0 P S k = none) : ah_ct P S (k + 1) = (fr, c + 1, false) := by simp [ah_ct, h, hk, hg, hn]
theorem ah_ct_s {P : ah_Pt} {S : List Nat} {k fr c j : Nat} (h : ah_ct P S k = (fr, c, false)) (hk : fr ≤ k) (hg : ah_gr P S k = false) (hn : ah_n0 P S k = some j) : ah_ct P S (k + 1) = (k + (ah_w P j).length, c + (ah_r P j).length, false) := by simp [ah_ct, h, hk, hg, hn]
theorem ah_ct_stop {P : ah_Pt} {S : List Nat} {k fr c : Nat} (h : ah_ct P S k = (fr, c, true)) : ∀ d, ah_ct P S (k + d) = (fr, c, true)
  | 0 => h
  | d + 1 => by
    have ih := ah_ct_stop h d
    show ah_ct P S (k + d + 1) = _
    simp [ah_ct, ih]
theorem ah_any_none {P : ah_Pt} {f : List Nat → Bool} (h : ∀ i w r, i < 40 → P i = some (w, r) → f w = false) : ah_any (ah_sat P f) 40 = false := by
  cases hh : ah_any (ah_sat P f) 40 with
  | false => rfl
  | true =>
    obtain ⟨i, hi, hs⟩ := ah_any_iff.mp hh
    obtain ⟨w, r, hp, hw⟩ := ah_sat_t hs
    rw [h i w r hi hp] at hw; cases hw
