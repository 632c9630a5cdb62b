/-! facts of the plain values: counting -/
theorem pc_off {p : Nat → Bool} {a b : Nat} (hab : a ≤ b) (h : ∀ i, a ≤ i → i < b → p i = false) : pu_cn p b = pu_cn p a := by
  induction b with
  | zero => rw [show a = 0 by omega]
  | succ b ih =>
    by_cases e : a = b + 1
    · rw [e]
    · rw [pu_cn_f (h b (by omega) (by omega)), ih (by omega) (fun i h1 h2 => h i h1 (by omega))]
theorem pc_on {p : Nat → Bool} {a : Nat} : ∀ d, (∀ i, a ≤ i → i < a + d → p i = true) → pu_cn p (a + d) = pu_cn p a + d
  | 0, _ => rfl
  | d + 1, h => by
    rw [← Nat.add_assoc, pu_cn_t (h (a + d) (by omega) (by omega)), pc_on d (fun i h1 h2 => h i h1 (by omega))]
    omega
theorem pc_or {p q t : Nat → Bool} : ∀ {n : Nat}, (∀ i, i < n → p i = true → q i = true ∨ t i = true) → pu_cn p n ≤ pu_cn q n + pu_cn t n
  | 0, _ => Nat.zero_le _
  | n + 1, h => by
    have ih := pc_or (n := n) (fun i hi => h i (by omega))
    have h1 := h n (by omega)
    simp only [pu_cn]
    cases hp : p n with
    | false => simp only [Bool.false_eq_true, if_false]; omega
    | true =>
      rcases h1 hp with e | e
      · rw [e]; simp only [if_true]; omega
      · rw [e]; simp only [if_true]; omega
theorem pc_zero {p : Nat → Bool} {n : Nat} (h : ∀ i, i < n → p i = false) : pu_cn p n = 0 := pc_off (a := 0) (Nat.zero_le _) (fun i _ hi => h i hi)
theorem pc_one {p : Nat → Bool} : ∀ {n : Nat}, (∀ i j, i < n → j < n → p i = true → p j = true → i = j) → pu_cn p n ≤ 1
  | 0, _ => by simp [pu_cn]
  | n + 1, h => by
    cases hp : p n with
    | false => rw [pu_cn_f hp]; exact pc_one (fun i j hi hj => h i j (by omega) (by omega))
    | true =>
      rw [pu_cn_t hp, pc_zero (fun i hi => ?_)]
      · exact Nat.le_refl _
      · cases hpi : p i with
        | false => rfl
        | true => have := h i n (by omega) (by omega) hpi hp; omega
theorem pc_pos {p : Nat → Bool} {i n : Nat} (hi : i < n) (hp : p i = true) : 0 < pu_cn p n := by
  have h1 := pu_cn_mono p (show i + 1 ≤ n by omega)
  rw [pu_cn_t hp] at h1
  omega
theorem pc_lt {p : Nat → Bool} {i j : Nat} (h : pu_cn p i < pu_cn p j) : i < j := by
  rcases Nat.lt_or_ge i j with h1 | h1
  · exact h1
  · have := pu_cn_mono p h1; omega
theorem pc_ex {p : Nat → Bool} {k : Nat} : ∀ {n : Nat}, k < pu_cn p n → ∃ j, j < n ∧ p j = true ∧ pu_cn p j = k
  | 0, h => absurd h (Nat.not_lt_zero _)
  | n + 1, h => by
    by_cases h1 : k < pu_cn p n
    · obtain ⟨j, h2, h3, h4⟩ := pc_ex h1
      exact ⟨j, by omega, h3, h4⟩
    · cases hp : p n with
      | false => rw [pu_cn_f hp] at h; exact absurd h h1
      | true => rw [pu_cn_t hp] at h; exact ⟨n, by omega, hp, by omega⟩
theorem pc_kt {p : Nat → Bool} {n j k : Nat} (hn : n < 2 ^ 31) (hj : j < n) (hp : p j = true) (hk : pu_cn p j = k) : ah_kt p n (nI k) = some j := by
  refine ah_fst_s.mpr ⟨hj, ?_, fun i hi => ?_⟩
  · simp [hp, hk]
  · cases hpi : p i with
    | false => rfl
    | true =>
      have h1 := pu_cn_mono p (show i + 1 ≤ j by omega)
      rw [pu_cn_t hpi] at h1
      have h2 := pu_cn_le p j
      simp only [Bool.true_and, decide_eq_false_iff_not]
      intro e
      have := (nI_eq (by omega) (by omega)).mp e
      omega
/-! the longest end that begins a pattern; the overlap -/
theorem pl_le (P : ah_Pt) (t : List Nat) : ∀ c, ah_le P t c ≤ c
  | 0 => Nat.le_refl 0
  | n + 1 => by
    have := pl_le P t n
    rw [ah_le]; split <;> omega
theorem pl_ge {P : ah_Pt} {t : List Nat} {c : Nat} (h0 : 0 < c) (h : ah_any (ah_sat P (fun w => decide (c ≤ w.length) && ah_bw (t.drop (t.length - c)) w)) 40 = true) : ∀ {m : Nat}, c ≤ m → c ≤ ah_le P t m
  | 0, hm => by omega
  | m + 1, hm => by
    by_cases e : c = m + 1
    · rw [← e, ah_le_t h0 h]; exact Nat.le_refl _
    · rw [ah_le]
      split
      · exact hm
      · exact pl_ge h0 h (by omega)
theorem po_le (u w : List Nat) : ∀ c, ah_ov u w c ≤ c
  | 0 => Nat.le_refl 0
  | n + 1 => by
    have := po_le u w n
    rw [ah_ov]; split <;> omega
theorem po_bw {u w : List Nat} : ∀ {c : Nat}, 0 < ah_ov u w c → ah_bw (u.drop (u.length - ah_ov u w c)) w = true
  | 0, h => absurd h (Nat.not_lt_zero _)
  | n + 1, h => by
    by_cases e : ah_bw (u.drop (u.length - (n + 1))) w = true
    · rw [ah_ov, if_pos e]; exact e
    · rw [ah_ov, if_neg e] at h ⊢
      exact po_bw h
theorem po_link {P : ah_Pt} {w u r : List Nat} {j : Nat} (hj : j < 40) (hp : P j = some (u, r)) (hw : 0 < w.length) : ah_ov w u (min w.length u.length - 1) ≤ ah_le P w (w.length - 1) := by
  have h1 := po_le w u (min w.length u.length - 1)
  rcases Nat.eq_zero_or_pos (ah_ov w u (min w.length u.length - 1)) with h0 | h0
  · omega
  · refine pl_ge h0 (ah_any_t hj ?_) (by omega)
    rw [ah_sat_s hp, po_bw h0, decide_eq_true (by omega)]
    rfl
theorem po_lt {w u : List Nat} (hu : 0 < u.length) : ah_ov w u (min w.length u.length - 1) < u.length := by
  have h1 := po_le w u (min w.length u.length - 1)
  omega
theorem pl_lt {P : ah_Pt} {w : List Nat} (hw : 0 < w.length) : ah_le P w (w.length - 1) < w.length := by
  have := pl_le P w (w.length - 1)
  omega
/-! what ends with the stream -/
theorem pe_drop {S w : List Nat} (h : ah_en S S.length w = true) : w.length ≤ S.length ∧ S.drop (S.length - w.length) = w := by
  simp only [ah_en, ah_at, Bool.and_eq_true, decide_eq_true_eq] at h
  refine ⟨h.1, ?_⟩
  have h2 := h.2
  rw [List.take_of_length_le (by rw [List.length_drop]; omega)] at h2
  exact h2
theorem pe_depth {P : ah_Pt} {S w r : List Nat} {j : Nat} (hj : j < 40) (hp : P j = some (w, r)) (hok : ah_ok w) (hne : w ≠ []) (h : ah_en S S.length w = true) : w.length ≤ ah_le P (ah_l8 S) (min S.length 8) := by
  obtain ⟨h1, h2⟩ := pe_drop h
  have h3 := hok.1
  have h4 := List.length_pos_iff.mpr hne
  refine pl_ge h4 (ah_any_t hj ?_) (by omega)
  have e : (ah_l8 S).drop ((ah_l8 S).length - w.length) = w := by
    unfold ah_l8
    rw [List.drop_drop, List.length_drop, show S.length - 8 + (S.length - (S.length - 8) - w.length) = S.length - w.length by omega, h2]
  rw [ah_sat_s hp, e, decide_eq_true (Nat.le_refl _)]
  simp [ah_bw]
theorem pe_last {S w : List Nat} (hne : w ≠ []) (hS : S.length ≤ 200) (h : ah_en S S.length w = true) : 0 < pu_cn (fun i => ah_at S i w) S.length ∧ ah_kt (fun i => ah_at S i w) S.length (nI (pu_cn (fun i => ah_at S i w) S.length - 1)) = some (S.length - w.length) := by
  have h4 := List.length_pos_iff.mpr hne
  have hat : ah_at S (S.length - w.length) w = true := by
    simp only [ah_en, Bool.and_eq_true] at h
    exact h.2
  have h1 := (pe_drop h).1
  have e : pu_cn (fun i => ah_at S i w) S.length = pu_cn (fun i => ah_at S i w) (S.length - w.length) + 1 := by
    rw [pc_off (a := S.length - w.length + 1) (by omega) (fun i h2 h3 => ah_at_out (by omega) hne)]
    exact pu_cn_t (p := fun i => ah_at S i w) hat
  exact ⟨by omega, pc_kt (by omega) (by omega) hat (by omega)⟩
/-- no two patterns have the same letters -/
def pd_D (P : ah_Pt) : Prop := ∀ (i j : Nat) (w r s : List Nat), P i = some (w, r) → P j = some (w, s) → i = j
theorem pe_es {P : ah_Pt} {S : List Nat} {z i : Nat} (h : ah_es P S z = some i) : ∃ w r : List Nat, P i = some (w, r) ∧ i < 40 ∧ w.length = z ∧ ah_en S S.length w = true := by
  obtain ⟨h1, h2, -⟩ := ah_fst_s.mp h
  obtain ⟨w, r, h3, h4⟩ := ah_sat_t h2
  simp only [Bool.and_eq_true, decide_eq_true_eq] at h4
  exact ⟨w, r, h3, h1, h4.1, h4.2⟩
theorem pe_cnt {P : ah_Pt} {S : List Nat} (hok : ah_Pok P) (hD : pd_D P) : ∀ J, J ≤ 8 → pu_cn (ah_sat P (fun w => decide (8 - J < w.length) && ah_en S S.length w)) 40 ≤ pu_cn (fun j => (ah_es P S (8 - j)).isSome) J
  | 0, _ => by
    rw [pc_zero (fun i hi => ?_)]
    · exact Nat.zero_le _
    · cases e : ah_sat P (fun w => decide (8 - 0 < w.length) && ah_en S S.length w) i with
      | false => rfl
      | true =>
        obtain ⟨w, r, h3, h4⟩ := ah_sat_t e
        have := (hok i w r h3).1.1
        simp only [Bool.and_eq_true, decide_eq_true_eq] at h4
        omega
  | J + 1, hJ => by
    have ih := pe_cnt (S := S) hok hD J (by omega)
    have h1 : pu_cn (ah_sat P (fun w => decide (8 - (J + 1) < w.length) && ah_en S S.length w)) 40 ≤ pu_cn (ah_sat P (fun w => decide (8 - J < w.length) && ah_en S S.length w)) 40 + pu_cn (ah_sat P (fun w => decide (w.length = 8 - J) && ah_en S S.length w)) 40 := by
      refine pc_or (fun i hi hs => ?_)
      obtain ⟨w, r, h3, h4⟩ := ah_sat_t hs
      simp only [Bool.and_eq_true, decide_eq_true_eq] at h4
      by_cases e : w.length = 8 - J
      · exact Or.inr (by rw [ah_sat_s h3, h4.2, decide_eq_true e]; rfl)
      · exact Or.inl (by rw [ah_sat_s h3, h4.2, decide_eq_true (by omega)]; rfl)
    cases hz : ah_es P S (8 - J) with
    | none =>
      have h2 := ah_fst_n.mp hz
      rw [pc_zero h2] at h1
      rw [pu_cn_f (p := fun j => (ah_es P S (8 - j)).isSome) (by simp only [hz]; rfl)]
      omega
    | some i =>
      have h2 : pu_cn (ah_sat P (fun w => decide (w.length = 8 - J) && ah_en S S.length w)) 40 ≤ 1 := by
        refine pc_one (fun a b ha hb h3 h4 => ?_)
        obtain ⟨w, r, g1, g2⟩ := ah_sat_t h3
        obtain ⟨u, q, g3, g4⟩ := ah_sat_t h4
        simp only [Bool.and_eq_true, decide_eq_true_eq] at g2 g4
        have k1 := (pe_drop g2.2).2
        have k2 := (pe_drop g4.2).2
        rw [g2.1] at k1
        rw [g4.1, k1] at k2
        subst k2
        exact hD a b w r q g1 g3
      rw [pu_cn_t (p := fun j => (ah_es P S (8 - j)).isSome) (by simp only [hz]; rfl)]
      omega
theorem pe_ending {P : ah_Pt} {S : List Nat} (hok : ah_Pok P) (hD : pd_D P) : pu_cn (ah_sat P (fun w => ah_en S S.length w)) 40 ≤ pu_cn (fun j => (ah_es P S (8 - j)).isSome) 8 := by
  have h := pe_cnt (S := S) hok hD 8 (Nat.le_refl _)
  refine Nat.le_trans ?_ h
  have e : pu_cn (ah_sat P (fun w => ah_en S S.length w)) 40 = pu_cn (ah_sat P (fun w => decide (8 - 8 < w.length) && ah_en S S.length w)) 40 := pu_cn_congr (fun i hi => by
    cases hp : P i with
    | none => rw [ah_sat_n hp, ah_sat_n hp]
    | some y =>
      obtain ⟨w, r⟩ := y
      have := List.length_pos_iff.mpr (hok i w r hp).2.2
      rw [ah_sat_s hp, ah_sat_s hp, decide_eq_true (by omega), Bool.true_and])
  rw [e]; exact Nat.le_refl _
/-- the k-th that ends with the stream -/
theorem pe_ep {P : ah_Pt} {S : List Nat} (hok : ah_Pok P) (hD : pd_D P) {k : Nat} (hk : k < pu_cn (ah_sat P (fun w => ah_en S S.length w)) 40) : ∃ (j i : Nat) (w r : List Nat), j < 8 ∧ (ah_es P S (8 - j)).isSome = true ∧ pu_cn (fun j => (ah_es P S (8 - j)).isSome) j = k ∧ ah_ep P S (nI k) = some i ∧ i < 40 ∧ P i = some (w, r) ∧ w.length = 8 - j ∧ ah_en S S.length w = true := by
  obtain ⟨j, h1, h2, h3⟩ := pc_ex (Nat.lt_of_lt_of_le hk (pe_ending hok hD))
  have h2' : (ah_es P S (8 - j)).isSome = true := h2
  obtain ⟨i, hi⟩ := Option.isSome_iff_exists.mp h2'
  obtain ⟨w, r, g1, g2, g3, g4⟩ := pe_es hi
  refine ⟨j, i, w, r, h1, h2', h3, ?_, g2, g1, g3, g4⟩
  rw [ah_ep, pc_kt (by decide) h1 h2 h3]
  exact hi
/-! occurrences, by their patterns and by their ends -/
def pm_sm (f : Nat → Nat) : Nat → Nat
  | 0 => 0
  | k + 1 => pm_sm f k + f k
theorem pm_congr {f g : Nat → Nat} : ∀ {n : Nat}, (∀ i, i < n → f i = g i) → pm_sm f n = pm_sm g n
  | 0, _ => rfl
  | n + 1, h => by rw [pm_sm, pm_sm, pm_congr (fun i hi => h i (by omega)), h n (by omega)]
theorem pm_add {f g : Nat → Nat} : ∀ n, pm_sm (fun i => f i + g i) n = pm_sm f n + pm_sm g n
  | 0 => rfl
  | n + 1 => by simp only [pm_sm, pm_add n]; omega
theorem pm_cn {p : Nat → Bool} : ∀ n, pm_sm (fun i => if p i then 1 else 0) n = pu_cn p n
  | 0 => rfl
  | n + 1 => by rw [pm_sm, pu_cn, pm_cn n]
theorem pm_0 : ∀ n, pm_sm (fun _ => 0) n = 0
  | 0 => rfl
  | n + 1 => by rw [pm_sm, pm_0 n]
theorem pm_oc {P : ah_Pt} {S : List Nat} {n : Nat} (hn : n ≤ 40) (hP : ∀ i, n ≤ i → P i = none) : ∀ N, pm_sm (fun i => pu_cn (fun e => ah_sat P (fun w => ah_en S (e + 1) w) i) N) n = ah_oc P S N
  | 0 => pm_0 n
  | N + 1 => by
    rw [ah_oc, ← pm_oc hn hP N, pc_off hn (p := ah_sat P (fun w => ah_en S (N + 1) w)) (fun i hi _ => ah_sat_n (hP i hi)), ← pm_cn, ← pm_add]
    rfl
theorem pm_shift1 {S w : List Nat} (hw : 0 < w.length) : ∀ N, pu_cn (fun e => ah_en S (e + 1) w) (N + (w.length - 1)) = pu_cn (fun j => ah_at S j w) N
  | 0 => by
    rw [Nat.zero_add]
    exact pc_zero (fun e he => by rw [ah_en, decide_eq_false (by omega), Bool.false_and])
  | N + 1 => by
    have e : ah_en S (N + (w.length - 1) + 1) w = ah_at S N w := by rw [ah_en, decide_eq_true (by omega), Bool.true_and, show N + (w.length - 1) + 1 - w.length = N by omega]
    rw [show N + 1 + (w.length - 1) = N + (w.length - 1) + 1 by omega, pu_cn, pu_cn, pm_shift1 hw N, e]
theorem pm_shift {S w : List Nat} (hw : w ≠ []) : pu_cn (fun j => ah_at S j w) S.length = pu_cn (fun e => ah_en S (e + 1) w) S.length := by
  have hp := List.length_pos_iff.mpr hw
  rcases Nat.lt_or_ge S.length (w.length - 1) with h | h
  · rw [pc_zero (p := fun j => ah_at S j w) (fun i _ => ah_at_out (by omega) hw)]
    exact (pc_zero (fun e he => by rw [ah_en, decide_eq_false (by omega), Bool.false_and])).symm
  · rw [show S.length = (S.length - (w.length - 1)) + (w.length - 1) by omega, pm_shift1 hp, ← show S.length = (S.length - (w.length - 1)) + (w.length - 1) by omega]
    exact pc_off (by omega) (fun i hi _ => ah_at_out (by omega) hw)
/-- how many occurrences a pattern has -/
def pm_n (P : ah_Pt) (S : List Nat) (i : Nat) : Nat := match P i with
  | none => 0
  | some (w, _) => pu_cn (fun j => ah_at S j w) S.length
theorem pm_n_n {P : ah_Pt} {S : List Nat} {i : Nat} (h : P i = none) : pm_n P S i = 0 := by simp [pm_n, h]
theorem pm_n_s {P : ah_Pt} {S : List Nat} {i : Nat} {w r : List Nat} (h : P i = some (w, r)) : pm_n P S i = pu_cn (fun j => ah_at S j w) S.length := by simp [pm_n, h]
theorem pm_occ {P : ah_Pt} {S : List Nat} {n : Nat} (hok : ah_Pok P) (hn : n ≤ 40) (hP : ∀ i, n ≤ i → P i = none) : pm_sm (pm_n P S) n = ah_oc P S S.length := by
  rw [← pm_oc hn hP]
  apply pm_congr
  intro i hi
  cases hp : P i with
  | none => rw [pm_n_n hp, pc_zero (fun j hj => ah_sat_n hp)]
  | some q =>
    obtain ⟨w, r⟩ := q
    rw [pm_n_s hp, pm_shift (hok _ _ _ hp).2.2]
    exact pu_cn_congr (fun j hj => (ah_sat_s hp).symm)
/-! beginnings -/
def pm_l (P : ah_Pt) (i : Nat) : Nat := (ah_w P i).length
theorem pb_le (P : ah_Pt) : ∀ k, pu_cb P k ≤ pm_sm (pm_l P) k
  | 0 => Nat.le_refl 0
  | k + 1 => by
    have ih := pb_le P k
    rw [pm_sm]
    cases hp : P k with
    | none => rw [pu_cb_n hp]; omega
    | some y =>
      obtain ⟨w, r⟩ := y
      rw [pu_cb_s hp, pm_l, ah_w_s hp]; omega
theorem pb_mono (P : ah_Pt) {a b : Nat} (h : a ≤ b) : pu_cb P a ≤ pu_cb P b := by
  induction b with
  | zero => rw [show a = 0 by omega]; exact Nat.le_refl _
  | succ b ih =>
    by_cases e : a = b + 1
    · rw [e]; exact Nat.le_refl _
    · have := ih (by omega)
      cases hp : P b with
      | none => rw [pu_cb_n hp]; exact this
      | some y =>
        obtain ⟨w, r⟩ := y
        rw [pu_cb_s hp]; omega
theorem pb_ls (P : ah_Pt) (i : Nat) (w : List Nat) : ∀ m, ah_ls P i w m = 0 ∨ ∃ (j : Nat) (u r : List Nat), j < i ∧ P j = some (u, r) ∧ ah_ls P i w m ≤ u.length
  | 0 => Or.inl rfl
  | m + 1 => by
    have ih := pb_ls P i w m
    cases hp : P m with
    | none => rw [ah_ls_n hp]; exact ih
    | some y =>
      obtain ⟨u, r⟩ := y
      by_cases hm : m < i
      · rw [ah_ls_t hp hm]
        have h1 := ah_sh_le u w (min u.length w.length)
        rcases Nat.le_total (ah_ls P i w m) (ah_sh u w (min u.length w.length)) with h | h
        · rw [Nat.max_eq_right h]
          exact Or.inr ⟨m, u, r, hm, hp, by omega⟩
        · rw [Nat.max_eq_left h]; exact ih
      · rw [ah_ls_f hp (by omega)]; exact ih
theorem pb_ge {P : ah_Pt} : ∀ (b m : Nat) (w r : List Nat), m < b → P m = some (w, r) → w.length ≤ pu_cb P (m + 1)
  | 0, _, _, _, h, _ => absurd h (Nat.not_lt_zero _)
  | b + 1, m, w, r, h, hp => by
    rw [pu_cb_s hp]
    rcases pb_ls P m w 40 with h0 | ⟨j, u, q, h1, h2, h3⟩
    · omega
    · have h4 := pb_ge b j u q (by omega) h2
      have h5 := pb_mono P (show j + 1 ≤ m by omega)
      omega
theorem pb_ge' {P : ah_Pt} {m : Nat} {w r : List Nat} (hm : m < 40) (hp : P m = some (w, r)) : w.length ≤ pu_cb P 40 := Nat.le_trans (pb_ge (m + 1) m w r (by omega) hp) (pb_mono P (by omega))
