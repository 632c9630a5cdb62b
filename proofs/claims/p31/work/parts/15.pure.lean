/-! numbers of the first so many that hold; the first that holds; the k-th that holds; the longest that holds -/
def pu_cn (p : Nat → Bool) : Nat → Nat
  | 0 => 0
  | n + 1 => pu_cn p n + (if p n then 1 else 0)
theorem pu_cn_t {p : Nat → Bool} {n : Nat} (h : p n = true) : pu_cn p (n + 1) = pu_cn p n + 1 := by simp [pu_cn, h]
theorem pu_cn_f {p : Nat → Bool} {n : Nat} (h : p n = false) : pu_cn p (n + 1) = pu_cn p n := by simp [pu_cn, h]
theorem pu_cn_le (p : Nat → Bool) : ∀ n, pu_cn p n ≤ n
  | 0 => Nat.le_refl 0
  | n + 1 => by
    have := pu_cn_le p n
    simp only [pu_cn]; split <;> omega
theorem pu_cn_congr {p q : Nat → Bool} : ∀ {n : Nat}, (∀ i, i < n → p i = q i) → pu_cn p n = pu_cn q n
  | 0, _ => rfl
  | n + 1, h => by rw [pu_cn, pu_cn, pu_cn_congr (fun i hi => h i (by omega)), h n (by omega)]
theorem pu_cn_mono (p : Nat → Bool) {a b : Nat} (h : a ≤ b) : pu_cn p a ≤ pu_cn p b := by
  induction b with
  | zero => have : a = 0 := by omega
            subst this; exact Nat.le_refl _
  | succ b ih =>
    by_cases e : a = b + 1
    · subst e; exact Nat.le_refl _
    · have := ih (by omega)
      simp only [pu_cn]; omega
def ah_any (p : Nat → Bool) : Nat → Bool
  | 0 => false
  | n + 1 => ah_any p n || p n
theorem ah_any_f {p : Nat → Bool} {n : Nat} (h : ah_any p n = false) (h2 : p n = false) : ah_any p (n + 1) = false := by simp [ah_any, h, h2]
theorem ah_any_iff {p : Nat → Bool} : ∀ {n : Nat}, ah_any p n = true ↔ ∃ i, i < n ∧ p i = true
  | 0 => by simp [ah_any]
  | n + 1 => by
    rw [ah_any, Bool.or_eq_true, ah_any_iff]
    constructor
    · rintro (⟨i, h1, h2⟩ | h)
      · exact ⟨i, by omega, h2⟩
      · exact ⟨n, by omega, h⟩
    · rintro ⟨i, h1, h2⟩
      by_cases e : i = n
      · subst e; exact Or.inr h2
      · exact Or.inl ⟨i, by omega, h2⟩
theorem ah_any_t {p : Nat → Bool} {k n : Nat} (hk : k < n) (h : p k = true) : ah_any p n = true := ah_any_iff.mpr ⟨k, hk, h⟩
def ah_fst (p : Nat → Bool) : Nat → Option Nat
  | 0 => none
  | n + 1 => match ah_fst p n with
    | some j => some j
    | none => if p n then some n else none
theorem ah_fst_n {p : Nat → Bool} : ∀ {n : Nat}, ah_fst p n = none ↔ ∀ i, i < n → p i = false
  | 0 => by simp [ah_fst]
  | n + 1 => by
    have ih := ah_fst_n (p := p) (n := n)
    constructor
    · intro h i hi
      rw [ah_fst] at h
      split at h
      · cases h
      · next e =>
        split at h
        · cases h
        · next hp =>
          by_cases e2 : i = n
          · subst e2; simpa using hp
          · exact ih.mp e i (by omega)
    · intro h
      rw [ah_fst, ih.mpr (fun i hi => h i (by omega))]
      simp [h n (by omega)]
theorem ah_fst_s {p : Nat → Bool} {j : Nat} : ∀ {n : Nat}, ah_fst p n = some j ↔ j < n ∧ p j = true ∧ ∀ i, i < j → p i = false
  | 0 => by simp [ah_fst]
  | n + 1 => by
    have ih := ah_fst_s (p := p) (j := j) (n := n)
    constructor
    · intro h
      rw [ah_fst] at h
      split at h
      · next e =>
        cases h
        obtain ⟨h1, h2, h3⟩ := ih.mp e
        exact ⟨by omega, h2, h3⟩
      · next e =>
        split at h
        · next hp => cases h; exact ⟨by omega, hp, ah_fst_n.mp e⟩
        · cases h
    · rintro ⟨h1, h2, h3⟩
      rw [ah_fst]
      by_cases e : j = n
      · subst e
        rw [ah_fst_n.mpr h3]
        simp [h2]
      · rw [ih.mpr ⟨by omega, h2, h3⟩]
theorem ah_fst_hit {p : Nat → Bool} {k n : Nat} (hk : k < n) (h : p k = true) (h2 : ah_fst p k = none) : ah_fst p n = some k := ah_fst_s.mpr ⟨hk, h, ah_fst_n.mp h2⟩
theorem ah_fst_0 {p : Nat → Bool} {n : Nat} (h : ah_fst p n = none) (h2 : p n = false) : ah_fst p (n + 1) = none := by simp [ah_fst, h, h2]
theorem ah_fst_congr {p q : Nat → Bool} : ∀ {n : Nat}, (∀ i, i < n → p i = q i) → ah_fst p n = ah_fst q n
  | 0, _ => rfl
  | n + 1, h => by rw [ah_fst, ah_fst, ah_fst_congr (fun i hi => h i (by omega)), h n (by omega)]
/-- the one that holds and has x that hold before it -/
def ah_kt (p : Nat → Bool) (n : Nat) (x : Int32) : Option Nat := ah_fst (fun j => p j && decide (nI (pu_cn p j) = x)) n
/-- whether pattern i is there and its letters satisfy f -/
def ah_sat (P : ah_Pt) (f : List Nat → Bool) (i : Nat) : Bool := match P i with
  | none => false
  | some (w, _) => f w
theorem ah_sat_n {P : ah_Pt} {f : List Nat → Bool} {i : Nat} (h : P i = none) : ah_sat P f i = false := by simp [ah_sat, h]
theorem ah_sat_s {P : ah_Pt} {f : List Nat → Bool} {i : Nat} {w r : List Nat} (h : P i = some (w, r)) : ah_sat P f i = f w := by simp [ah_sat, h]
/-- a pattern's letters -/
def ah_w (P : ah_Pt) (i : Nat) : List Nat := match P i with
  | none => []
  | some (w, _) => w
def ah_r (P : ah_Pt) (i : Nat) : List Nat := match P i with
  | none => []
  | some (_, r) => r
theorem ah_w_s {P : ah_Pt} {i : Nat} {w r : List Nat} (h : P i = some (w, r)) : ah_w P i = w := by simp [ah_w, h]
theorem ah_r_s {P : ah_Pt} {i : Nat} {w r : List Nat} (h : P i = some (w, r)) : ah_r P i = r := by simp [ah_r, h]
/-- the longest of the first so many that hold; of several the first -/
def ah_best (P : ah_Pt) (f : List Nat → Bool) : Nat → Option Nat
  | 0 => none
  | n + 1 => if ah_sat P f n then (match ah_best P f n with
    | none => some n
    | some j => if (ah_w P j).length < (ah_w P n).length then some n else some j) else ah_best P f n
theorem ah_best_f {P : ah_Pt} {f : List Nat → Bool} {n : Nat} (h : ah_sat P f n = false) : ah_best P f (n + 1) = ah_best P f n := by simp [ah_best, h]
theorem ah_best_0 {P : ah_Pt} {f : List Nat → Bool} {n : Nat} (h : ah_sat P f n = true) (hb : ah_best P f n = none) : ah_best P f (n + 1) = some n := by simp [ah_best, h, hb]
theorem ah_best_g {P : ah_Pt} {f : List Nat → Bool} {n j : Nat} (h : ah_sat P f n = true) (hb : ah_best P f n = some j) (hl : (ah_w P j).length < (ah_w P n).length) : ah_best P f (n + 1) = some n := by simp [ah_best, h, hb, hl]
theorem ah_best_k {P : ah_Pt} {f : List Nat → Bool} {n j : Nat} (h : ah_sat P f n = true) (hb : ah_best P f n = some j) (hl : (ah_w P n).length ≤ (ah_w P j).length) : ah_best P f (n + 1) = some j := by simp [ah_best, h, hb, Nat.not_lt.mpr hl]
theorem ah_best_lt {P : ah_Pt} {f : List Nat → Bool} : ∀ {n j : Nat}, ah_best P f n = some j → j < n ∧ ah_sat P f j = true
  | 0, j, h => by cases h
  | n + 1, j, h => by
    rw [ah_best] at h
    split at h
    · next hs =>
      split at h
      · cases h; exact ⟨by omega, hs⟩
      · next j' e =>
        have ih := ah_best_lt e
        split at h
        · cases h; exact ⟨by omega, hs⟩
        · cases h; exact ⟨by omega, ih.2⟩
    · have ih := ah_best_lt h
      exact ⟨by omega, ih.2⟩
/-! places of a stream, by the class's numbers -/
def ah_lb (S : List Nat) (k : Nat) : Nat := if k ≤ S.length then ah_enc (ah_l8 (S.take k)) else 0
theorem ah_lb_lt {S : List Nat} (hS : ah_lt S) (k : Nat) : ah_lb S k < 2 ^ 40 := by
  unfold ah_lb
  split
  · exact ah_enc_40 (ah_l8_ok (ah_lt_take hS k))
  · omega
theorem ah_hb {S w : List Nat} {e : Nat} (hS : ah_lt S) (hw : ah_ok w) (he : e ≤ S.length) : lN (ah_lb S e % 32 ^ w.length) = lN (ah_enc w) ↔ ah_en S e w = true := by
  have h1 := ah_lb_lt hS e
  have h2 := Nat.mod_le (ah_lb S e) (32 ^ w.length)
  rw [ah_lN_eq (by omega) (ah_enc_40 hw), ah_lb, if_pos he]
  exact ah_en_eq he hS hw
theorem ah_ha {S w : List Nat} {i : Nat} (hS : ah_lt S) (hw : ah_ok w) (hn : w ≠ []) : lN (ah_lb S (i + w.length) % 32 ^ w.length) = lN (ah_enc w) ↔ ah_at S i w = true := by
  by_cases h : i + w.length ≤ S.length
  · rw [ah_hb hS hw h, ah_at_en h]
  · rw [ah_at_out (by omega) hn, ah_lb, if_neg h, Nat.zero_mod, ah_lN_eq (by omega) (ah_enc_40 hw)]
    exact ⟨fun e => absurd e.symm (ah_enc_pos hw.2 hn), fun e => by cases e⟩
theorem ah_bz {b : Bool} {c : Prop} (h : c ↔ b = true) (hc : c) : bI_ b = nI 1 := by rw [h.mp hc]; rfl
theorem ah_bn {b : Bool} {c : Prop} (h : c ↔ b = true) (hc : ¬ c) : bI_ b = nI 0 := by
  cases b with
  | false => rfl
  | true => exact absurd (h.mpr rfl) hc
theorem ah_l8_snoc (S : List Nat) (x : Nat) : (ah_l8 S ++ [x]).drop ((ah_l8 S ++ [x]).length - 8) = ah_l8 (S ++ [x]) := by
  unfold ah_l8
  simp only [List.length_append, List.length_drop, List.length_singleton]
  by_cases h : S.length < 8
  · rw [show S.length - 8 = 0 by omega, List.drop_zero, show S.length - 0 + 1 - 8 = S.length + 1 - 8 by omega]
  · rw [show S.length - (S.length - 8) + 1 - 8 = 1 by omega, show S.length + 1 - 8 = (S.length - 8) + 1 by omega]
    rw [← List.drop_drop, List.drop_append_of_le_length (i := S.length - 8) (by omega)]
theorem ah_str_snoc {lf : Nat → Int64} {S : List Nat} {x : Nat} (h : ah_str lf S) (h1 : 1 ≤ x) (h2 : x ≤ 26) (hl : S.length < 200) : ah_str (vp_updL lf (S.length + 1) (lN (ah_enc (ah_l8 (S ++ [x]))))) (S ++ [x]) := by
  obtain ⟨a, b, c⟩ := h
  refine ⟨by simp; omega, ah_lt_app.mpr ⟨b, fun y hy => by simp at hy; omega⟩, fun i hi => ?_⟩
  by_cases e : i = S.length + 1
  · subst e
    rw [List.take_of_length_le (by simp)]
    simp [vp_updL]
  · have hi2 : i ≤ S.length := by simp at hi; omega
    rw [List.take_append_of_le_length hi2, ← c i hi2]
    simp [vp_updL, e]
theorem ah_lb_mod8 {S : List Nat} {x : Nat} (hS : ah_lt S) (h1 : 1 ≤ x) (h2 : x ≤ 26) : (ah_enc (ah_l8 S) * 32 + x) % 32 ^ 8 = ah_enc (ah_l8 (S ++ [x])) := by
  have hl : ah_lt (ah_l8 S ++ [x]) := ah_lt_app.mpr ⟨ah_lt_drop hS _, fun y hy => by simp at hy; omega⟩
  rw [← ah_enc_snoc, ah_enc_mod hl, ah_l8_snoc]
theorem ah_lb_last {S : List Nat} {k : Nat} (hS : ah_lt S) (hk : k < S.length) : ah_lb S (k + 1) % 32 = S.getD k 0 := by
  have hx := hS (S[k]) (List.getElem_mem hk)
  rw [ah_lb, if_pos (by omega)]
  have h1 := ah_l8_mod (ah_lt_take hS (k + 1)) (k := 1) (by omega)
  rw [Nat.pow_one] at h1
  have e2 : (S.take (k + 1)).drop ((S.take (k + 1)).length - 1) = [S[k]] := by
    rw [List.length_take, show min (k + 1) S.length - 1 = k by omega, List.drop_take, show k + 1 - k = 1 by omega]
    rw [List.drop_eq_getElem_cons hk]
    rfl
  rw [h1, e2, List.getD_eq_getElem?_getD, List.getElem?_eq_getElem hk]
  simp [ah_enc]
theorem ah_kt_f {p : Nat → Bool} {k : Nat} {x : Int32} (h : ah_kt p k x = none) (hp : p k = false) : ah_kt p (k + 1) x = none := ah_fst_0 h (by simp [hp])
theorem ah_kt_s {p : Nat → Bool} {k : Nat} {x : Int32} (h : ah_kt p k x = none) (hx : ¬ nI (pu_cn p k) = x) : ah_kt p (k + 1) x = none := ah_fst_0 h (by simp [hx])
theorem ah_kt_hit {p : Nat → Bool} {k n : Nat} {x : Int32} (hk : k < n) (hp : p k = true) (hx : nI (pu_cn p k) = x) (h : ah_kt p k x = none) : ah_kt p n x = some k := ah_fst_hit hk (by simp [hp, hx]) h
def ah_ch (F F1 : ah_F) (L : List Nat) : Prop := ∀ a : Nat, a ∉ L → F1 a = F a
theorem ah_ch_r (F : ah_F) (L : List Nat) : ah_ch F F L := fun _ _ => rfl
theorem ah_ch_u {F F1 : ah_F} {L : List Nat} {a : Nat} {x : va_E} (h : ah_ch F F1 L) (ha : a ∈ L) : ah_ch F (ah_up F1 a x) L := fun b hb => by
  rw [ah_up_n F1 x (fun e => hb (by rw [e]; exact ha))]
  exact h b hb
theorem ah_ch_t {F F1 F2 : ah_F} {L M : List Nat} (h : ah_ch F F1 L) (h2 : ah_ch F1 F2 M) (hs : ∀ a ∈ M, a ∈ L) : ah_ch F F2 L := fun b hb => (h2 b (fun q => hb (hs b q))).trans (h b hb)
theorem ah_code_eq {u w : List Nat} (hu : ah_ok u) (hw : ah_ok w) : lN (ah_enc u) = lN (ah_enc w) ↔ u = w := (ah_lN_eq (ah_enc_40 hu) (ah_enc_40 hw)).trans (ah_enc_eq hu.2 hw.2)
/-- a number as a pattern's -/
def ah_ix (x : Int32) : Option Nat := if x < 0 then none else if x.toNatClampNeg < 40 then some x.toNatClampNeg else none
theorem ah_ix_in {i : Nat} (h : i < 40) : ah_ix (nI i) = some i := by
  rw [ah_ix, if_neg (nI_pos (by omega)), nI_clamp (by omega), if_pos h]
theorem ah_ix_neg {x : Int32} (h : x < 0) : ah_ix x = none := by rw [ah_ix, if_pos h]
theorem ah_ix_ge {x : Int32} (h : nI 40 ≤ x) : ah_ix x = none := by
  rw [ah_ix]
  split
  · rfl
  · next h0 =>
    obtain ⟨j, hj, e⟩ := nI_of h0
    subst e
    rw [nI_clamp hj, if_neg (by have := (nI_leI (by omega) hj).mp h; omega)]
theorem ah_ix_s {x : Int32} {i : Nat} (h : ah_ix x = some i) : i < 40 ∧ x = nI i := by
  rw [ah_ix] at h
  split at h
  · cases h
  · next h0 =>
    split at h
    · next h1 =>
      obtain ⟨j, hj, e⟩ := nI_of h0
      subst e
      rw [nI_clamp hj] at h h1
      cases h
      exact ⟨h1, rfl⟩
    · cases h
def ah_le (P : ah_Pt) (t : List Nat) : Nat → Nat
  | 0 => 0
  | n + 1 => if ah_any (ah_sat P (fun w => decide (n + 1 ≤ w.length) && ah_bw (t.drop (t.length - (n + 1))) w)) 40 then n + 1 else ah_le P t n
theorem ah_le_t {P : ah_Pt} {t : List Nat} {c : Nat} (h0 : 0 < c) (h : ah_any (ah_sat P (fun w => decide (c ≤ w.length) && ah_bw (t.drop (t.length - c)) w)) 40 = true) : ah_le P t c = c := by
  obtain ⟨n, rfl⟩ : ∃ n, c = n + 1 := ⟨c - 1, by omega⟩
  rw [ah_le, if_pos h]
theorem ah_le_f {P : ah_Pt} {t : List Nat} {c : Nat} (h0 : 0 < c) (h : ah_any (ah_sat P (fun w => decide (c ≤ w.length) && ah_bw (t.drop (t.length - c)) w)) 40 = false) : ah_le P t (c - 1) = ah_le P t c := by
  obtain ⟨n, rfl⟩ : ∃ n, c = n + 1 := ⟨c - 1, by omega⟩
  rw [ah_le, if_neg (by rw [h]; decide)]
  rfl
/-- how many first letters two words share -/
def ah_sh (u w : List Nat) : Nat → Nat
  | 0 => 0
  | n + 1 => if ah_bw (w.take (n + 1)) u then n + 1 else ah_sh u w n
theorem ah_sh_t {u w : List Nat} {c : Nat} (h0 : 0 < c) (h : ah_bw (w.take c) u = true) : ah_sh u w c = c := by
  obtain ⟨n, rfl⟩ : ∃ n, c = n + 1 := ⟨c - 1, by omega⟩
  rw [ah_sh, if_pos h]
theorem ah_sh_f {u w : List Nat} {c : Nat} (h0 : 0 < c) (h : ah_bw (w.take c) u = false) : ah_sh u w (c - 1) = ah_sh u w c := by
  obtain ⟨n, rfl⟩ : ∃ n, c = n + 1 := ⟨c - 1, by omega⟩
  rw [ah_sh, if_neg (by rw [h]; decide)]
  rfl
theorem ah_sh_le (u w : List Nat) : ∀ c, ah_sh u w c ≤ c
  | 0 => Nat.le_refl 0
  | n + 1 => by
    have := ah_sh_le u w n
    rw [ah_sh]; split <;> omega
/-- .. with one of a lower number -/
def ah_ls (P : ah_Pt) (i : Nat) (w : List Nat) : Nat → Nat
  | 0 => 0
  | j + 1 => match P j with
    | none => ah_ls P i w j
    | some (u, _) => if j < i then max (ah_ls P i w j) (ah_sh u w (min u.length w.length)) else ah_ls P i w j
theorem ah_ls_n {P : ah_Pt} {i j : Nat} {w : List Nat} (h : P j = none) : ah_ls P i w (j + 1) = ah_ls P i w j := by simp [ah_ls, h]
theorem ah_ls_t {P : ah_Pt} {i j : Nat} {w u r : List Nat} (h : P j = some (u, r)) (hj : j < i) : ah_ls P i w (j + 1) = max (ah_ls P i w j) (ah_sh u w (min u.length w.length)) := by simp [ah_ls, h, hj]
theorem ah_ls_f {P : ah_Pt} {i j : Nat} {w u r : List Nat} (h : P j = some (u, r)) (hj : i ≤ j) : ah_ls P i w (j + 1) = ah_ls P i w j := by simp [ah_ls, h, Nat.not_lt.mpr hj]
theorem ah_ls_le (P : ah_Pt) (i : Nat) (w : List Nat) : ∀ j, ah_ls P i w j ≤ w.length
  | 0 => Nat.zero_le _
  | j + 1 => by
    have h := ah_ls_le P i w j
    rw [ah_ls]
    split
    · exact h
    · next u r e =>
      have h2 := ah_sh_le u w (min u.length w.length)
      split
      · omega
      · exact h
/-- how many beginnings are no other's of a lower number -/
def pu_cb (P : ah_Pt) : Nat → Nat
  | 0 => 0
  | k + 1 => match P k with
    | none => pu_cb P k
    | some (w, _) => pu_cb P k + (w.length - ah_ls P k w 40)
theorem pu_cb_n {P : ah_Pt} {k : Nat} (h : P k = none) : pu_cb P (k + 1) = pu_cb P k := by simp [pu_cb, h]
theorem pu_cb_s {P : ah_Pt} {k : Nat} {w r : List Nat} (h : P k = some (w, r)) : pu_cb P (k + 1) = pu_cb P k + (w.length - ah_ls P k w 40) := by simp [pu_cb, h]
/-- the pattern of a size that ends with the stream -/
def ah_es (P : ah_Pt) (S : List Nat) (z : Nat) : Option Nat := ah_fst (ah_sat P (fun w => decide (w.length = z) && ah_en S S.length w)) 40
theorem ah_sat_t {P : ah_Pt} {f : List Nat → Bool} {i : Nat} (h : ah_sat P f i = true) : ∃ w r, P i = some (w, r) ∧ f w = true := by
  unfold ah_sat at h
  split at h
  · cases h
  · next w r e => exact ⟨w, r, e, h⟩
theorem ah_rows.a {F : ah_F} {rf : Nat → Option Nat} {P : ah_Pt} (h : ah_rows F rf P) {i : Nat} (hi : i < 40) {w r : List Nat} (hp : P i = some (w, r)) : ∃ q, rf i = some q := by
  rcases h i hi with ⟨h1, -⟩ | ⟨w', r', q, lw, lr, h1, h2, h3⟩
  · rw [hp] at h1; cases h1
  · exact ⟨q, h2⟩
theorem ah_fst_bn {F : ah_F} {rf : Nat → Option Nat} {P : ah_Pt} (h : ah_rows F rf P) {f : List Nat → Bool} {n : Nat} (hn : n ≤ 40) (e : (ah_fst (ah_sat P f) n).bind rf = none) : ah_fst (ah_sat P f) n = none := by
  cases hf : ah_fst (ah_sat P f) n with
  | none => rfl
  | some j =>
    obtain ⟨h1, h2, -⟩ := ah_fst_s.mp hf
    obtain ⟨w, r, hp, -⟩ := ah_sat_t h2
    obtain ⟨q, hq⟩ := h.a (i := j) (by omega) hp
    rw [hf] at e
    have e : rf j = none := e
    rw [hq] at e; cases e
theorem ah_best_bn {F : ah_F} {rf : Nat → Option Nat} {P : ah_Pt} (h : ah_rows F rf P) {f : List Nat → Bool} {n : Nat} (hn : n ≤ 40) (e : none = (ah_best P f n).bind rf) : ah_best P f n = none := by
  cases hf : ah_best P f n with
  | none => rfl
  | some j =>
    obtain ⟨h1, h2⟩ := ah_best_lt hf
    obtain ⟨w, r, hp, -⟩ := ah_sat_t h2
    obtain ⟨q, hq⟩ := h.a (i := j) (by omega) hp
    rw [hf] at e
    have e : none = rf j := e
    rw [hq] at e; cases e
theorem ah_best_bs {F : ah_F} {rf : Nat → Option Nat} {P : ah_Pt} (h : ah_rows F rf P) {f : List Nat → Bool} {n b : Nat} (hn : n ≤ 40) (e : some b = (ah_best P f n).bind rf) : ∃ (j : Nat) (w r : List Nat) (lw lr : Nat), ah_best P f n = some j ∧ j < n ∧ rf j = some b ∧ P j = some (w, r) ∧ F b = some (.inr (2, [.int (nI j), .ref lw, .ref lr])) ∧ ah_wd F lw w ∧ ah_wd F lr r ∧ ah_ok w ∧ ah_ok r ∧ w ≠ [] ∧ f w = true := by
  cases hf : ah_best P f n with
  | none => rw [hf] at e; cases e
  | some j =>
    obtain ⟨h1, h2⟩ := ah_best_lt hf
    obtain ⟨w, r, hp, hw⟩ := ah_sat_t h2
    rw [hf] at e
    have e : some b = rf j := e
    obtain ⟨w', r', lw, lr, hp', h3, h4, h5, h6, h7, h8⟩ := h.s (i := j) (by omega) e.symm
    rw [hp] at hp'; cases hp'
    exact ⟨j, w, r, lw, lr, rfl, h1, e.symm, hp, h3, h4, h5, h6, h7, h8, hw⟩
