/-! the lists that the class chooses: one behind the other, within the stream -/
def ah_pe (P : ah_Pt) (L : ah_Ch) : Nat → Nat
  | 0 => 0
  | t + 1 => match L[t]? with
    | some (j, i) => i + (ah_w P j).length
    | none => 0
def ah_chn (P : ah_Pt) (S : List Nat) (L : ah_Ch) : Prop := ∀ (t j i : Nat), L[t]? = some (j, i) → ah_pe P L t ≤ i ∧ i + (ah_w P j).length ≤ S.length ∧ j < 40 ∧ (P j).isSome = true ∧ ah_at S i (ah_w P j) = true
theorem ah_pe_app {P : ah_Pt} {L : ah_Ch} {y : Nat × Nat} {t : Nat} (h : t ≤ L.length) : ah_pe P (L ++ [y]) t = ah_pe P L t := by
  cases t with
  | zero => rfl
  | succ t => simp only [ah_pe]; rw [List.getElem?_append_left (by omega)]
theorem ah_pe_last {P : ah_Pt} {L : ah_Ch} {j i : Nat} : ah_pe P (L ++ [(j, i)]) (L ++ [(j, i)]).length = i + (ah_w P j).length := by
  rw [List.length_append]
  show ah_pe P (L ++ [(j, i)]) (L.length + 1) = _
  simp only [ah_pe]
  rw [List.getElem?_append_right (Nat.le_refl _), Nat.sub_self]
  rfl
theorem ah_chn_app {P : ah_Pt} {S : List Nat} {L : ah_Ch} {j i : Nat} (h : ah_chn P S L) (h1 : ah_pe P L L.length ≤ i) (h2 : i + (ah_w P j).length ≤ S.length) (h3 : j < 40) (h4 : (P j).isSome = true) (h5 : ah_at S i (ah_w P j) = true) : ah_chn P S (L ++ [(j, i)]) := by
  intro t j' i' ht
  by_cases e : t < L.length
  · rw [List.getElem?_append_left e] at ht
    rw [ah_pe_app (by omega)]
    exact h t j' i' ht
  · have hl := (List.getElem?_eq_some_iff.mp ht).1
    have e2 : t = L.length := by simp at hl; omega
    subst e2
    rw [List.getElem?_append_right (Nat.le_refl _), Nat.sub_self] at ht
    cases ht
    rw [ah_pe_app (Nat.le_refl _)]
    exact ⟨h1, h2, h3, h4, h5⟩
theorem ah_at_in {S w : List Nat} {i : Nat} (h : ah_at S i w = true) (hw : w ≠ []) : i + w.length ≤ S.length := by
  by_cases q : i + w.length ≤ S.length
  · exact q
  · rw [ah_at_out (by omega) hw] at h; cases h
/-- a set of patterns with good words -/
def ah_Pok (P : ah_Pt) : Prop := ∀ (i : Nat) (w r : List Nat), P i = some (w, r) → ah_ok w ∧ ah_ok r ∧ w ≠ []
theorem ah_rows.ok {F : ah_F} {rf : Nat → Option Nat} {P : ah_Pt} (h : ah_rows F rf P) (hn : ∀ i, 40 ≤ i → P i = none) : ah_Pok P := by
  intro i w r hp
  by_cases hi : i < 40
  · obtain ⟨q, hq⟩ := h.a hi hp
    obtain ⟨w2, r2, lw, lr, hp2, -, -, -, h1, h2, h3⟩ := h.s hi hq
    rw [hp] at hp2; cases hp2
    exact ⟨h1, h2, h3⟩
  · rw [hn i (by omega)] at hp; cases hp
def ah_nxok (P : ah_Pt) (S : List Nat) (nx : Nat → Option Nat) : Prop := ∀ k j, nx k = some j → j < 40 ∧ ah_sat P (fun w => ah_at S k w) j = true
theorem ah_n0_ok (P : ah_Pt) (S : List Nat) : ah_nxok P S (ah_n0 P S) := fun _ _ h => ah_best_lt h
theorem ah_n1_ok (P : ah_Pt) (S : List Nat) : ah_nxok P S (ah_n1 P S) := fun _ _ h => ⟨(ah_fst_s.mp h).1, (ah_fst_s.mp h).2.1⟩
theorem ah_cpl_chn {P : ah_Pt} {S : List Nat} {nx : Nat → Option Nat} (hP : ah_Pok P) (hx : ah_nxok P S nx) : ∀ k, ah_chn P S (ah_cpl P nx k).2 ∧ (ah_cpl P nx k).1 = ah_pe P (ah_cpl P nx k).2 (ah_cpl P nx k).2.length ∧ (ah_cpl P nx k).1 ≤ S.length
  | 0 => ⟨fun t j i h => by simp [ah_cpl] at h, rfl, Nat.zero_le _⟩
  | k + 1 => by
    obtain ⟨h1, h2, h3⟩ := ah_cpl_chn hP hx k
    by_cases hf : (ah_cpl P nx k).1 ≤ k
    · cases hn : nx k with
      | none => rw [ah_cpl_n hn]; exact ⟨h1, h2, h3⟩
      | some j =>
        obtain ⟨hj, hs⟩ := hx k j hn
        obtain ⟨w, r, hp, hw⟩ := ah_sat_t hs
        have hin := ah_at_in hw (hP j w r hp).2.2
        rw [ah_cpl_s hf hn, ah_w_s hp]
        refine ⟨ah_chn_app h1 (by rw [← h2]; exact hf) (by rw [ah_w_s hp]; exact hin) hj (by rw [hp]; rfl) (by rw [ah_w_s hp]; exact hw), ?_, hin⟩
        rw [ah_pe_last, ah_w_s hp]
    · rw [ah_cpl_o (by omega)]; exact ⟨h1, h2, h3⟩
theorem ah_cel_chn {P : ah_Pt} {S : List Nat} : ∀ e, e ≤ S.length → ah_chn P S (ah_cel P S e).2 ∧ (ah_cel P S e).1 = ah_pe P (ah_cel P S e).2 (ah_cel P S e).2.length ∧ (ah_cel P S e).1 ≤ e
  | 0, _ => ⟨fun t j i h => by simp [ah_cel] at h, rfl, Nat.zero_le _⟩
  | e + 1, he => by
    obtain ⟨h1, h2, h3⟩ := ah_cel_chn (P := P) (S := S) e (by omega)
    cases hn : ah_wi P S (ah_cel P S e).1 (e + 1) with
    | none => rw [ah_cel_n hn]; exact ⟨h1, h2, by omega⟩
    | some j =>
      obtain ⟨hj, hs⟩ := ah_best_lt hn
      obtain ⟨w, r, hp, hw⟩ := ah_sat_t hs
      simp only [Bool.and_eq_true, decide_eq_true_eq] at hw
      obtain ⟨hw1, hw2⟩ := hw
      have hle : w.length ≤ e + 1 := by omega
      have hat : ah_at S (e + 1 - w.length) w = true := by
        simp only [ah_en, Bool.and_eq_true, decide_eq_true_eq] at hw2
        exact hw2.2
      rw [ah_cel_s hn, ah_w_s hp]
      refine ⟨ah_chn_app h1 (by rw [← h2]; omega) (by rw [ah_w_s hp]; omega) hj (by rw [hp]; rfl) (by rw [ah_w_s hp]; exact hat), ?_, Nat.le_refl _⟩
      rw [ah_pe_last, ah_w_s hp]
      show e + 1 = e + 1 - w.length + w.length
      omega
theorem ah_chs_chn {P : ah_Pt} {S : List Nat} (hP : ah_Pok P) (ru : Nat) : ah_chn P S (ah_chs P S ru) := by
  unfold ah_chs
  split
  · exact (ah_cel_chn _ (Nat.le_refl _)).1
  · split
    · exact (ah_cpl_chn hP (ah_n0_ok P S) _).1
    · exact (ah_cpl_chn hP (ah_n1_ok P S) _).1
/-- the text behind the first t of the list -/
def ah_tp (P : ah_Pt) (S : List Nat) (L : ah_Ch) : Nat → List Nat
  | 0 => []
  | t + 1 => match L[t]? with
    | some (j, i) => ah_tp P S L t ++ (S.take i).drop (ah_pe P L t) ++ ah_r P j
    | none => ah_tp P S L t
def ah_tx (P : ah_Pt) (S : List Nat) (L : ah_Ch) : List Nat := ah_tp P S L L.length ++ (S.take S.length).drop (ah_pe P L L.length)
theorem ah_tp_s {P : ah_Pt} {S : List Nat} {L : ah_Ch} {t j i : Nat} (h : L[t]? = some (j, i)) : ah_tp P S L (t + 1) = ah_tp P S L t ++ (S.take i).drop (ah_pe P L t) ++ ah_r P j := by simp only [ah_tp, h]
theorem ah_pe_s {P : ah_Pt} {L : ah_Ch} {t j i : Nat} (h : L[t]? = some (j, i)) : ah_pe P L (t + 1) = i + (ah_w P j).length := by simp only [ah_pe, h]
theorem ah_w_ok {P : ah_Pt} (hP : ah_Pok P) {j : Nat} (h : (P j).isSome = true) : ah_ok (ah_w P j) ∧ ah_ok (ah_r P j) ∧ 0 < (ah_w P j).length := by
  cases hp : P j with
  | none => rw [hp] at h; cases h
  | some y =>
    obtain ⟨w, r⟩ := y
    rw [ah_w_s hp, ah_r_s hp]
    obtain ⟨h1, h2, h3⟩ := hP j w r hp
    exact ⟨h1, h2, List.length_pos_iff.mpr h3⟩
theorem ah_pe_le {P : ah_Pt} {S : List Nat} {L : ah_Ch} (h : ah_chn P S L) : ∀ t, t ≤ L.length → ah_pe P L t ≤ S.length
  | 0, _ => Nat.zero_le _
  | t + 1, ht => by
    have e : L[t]? = some (L[t].1, L[t].2) := List.getElem?_eq_getElem (by omega)
    rw [ah_pe_s e]
    exact (h t _ _ e).2.1
theorem ah_tp_len {P : ah_Pt} {S : List Nat} {L : ah_Ch} (hP : ah_Pok P) (h : ah_chn P S L) : ∀ t, t ≤ L.length → (ah_tp P S L t).length ≤ 8 * ah_pe P L t
  | 0, _ => Nat.zero_le _
  | t + 1, ht => by
    have e : L[t]? = some (L[t].1, L[t].2) := List.getElem?_eq_getElem (by omega)
    have ih := ah_tp_len hP h t (by omega)
    obtain ⟨h1, h2, h3, h4, -⟩ := h t _ _ e
    obtain ⟨-, k2, k3⟩ := ah_w_ok hP h4
    have k4 := k2.1
    rw [ah_tp_s e, ah_pe_s e, List.length_append, List.length_append, List.length_drop, List.length_take]
    omega
theorem ah_tp_lt {P : ah_Pt} {S : List Nat} {L : ah_Ch} (hP : ah_Pok P) (hS : ah_lt S) (h : ah_chn P S L) : ∀ t, t ≤ L.length → ah_lt (ah_tp P S L t)
  | 0, _ => fun x hx => by simp [ah_tp] at hx
  | t + 1, ht => by
    have e : L[t]? = some (L[t].1, L[t].2) := List.getElem?_eq_getElem (by omega)
    have ih := ah_tp_lt hP hS h t (by omega)
    obtain ⟨h1, h2, h3, h4, -⟩ := h t _ _ e
    rw [ah_tp_s e]
    exact ah_lt_app.mpr ⟨ah_lt_app.mpr ⟨ih, ah_lt_drop (ah_lt_take hS _) _⟩, (ah_w_ok hP h4).2.1.2⟩
theorem ah_tx_lt {P : ah_Pt} {S : List Nat} {L : ah_Ch} (hP : ah_Pok P) (hS : ah_lt S) (h : ah_chn P S L) : ah_lt (ah_tx P S L) := ah_lt_app.mpr ⟨ah_tp_lt hP hS h _ (Nat.le_refl _), ah_lt_drop (ah_lt_take hS _) _⟩
/-! changes of the patterns -/
def ah_e1 (P : ah_Pt) (S : List Nat) : Nat := pu_cn (ah_sat P (fun w => ah_en S S.length w)) 40
def ah_fs (P : ah_Pt) (S w : List Nat) : Nat → Nat
  | 0 => 0
  | k + 1 => ah_fs P S w k + ah_e1 P (S ++ w.take (k + 1))
theorem ah_fs_le (P : ah_Pt) (S w : List Nat) : ∀ k, ah_fs P S w k ≤ 40 * k
  | 0 => Nat.le_refl 0
  | k + 1 => by
    have := ah_fs_le P S w k
    have := pu_cn_le (ah_sat P (fun u => ah_en (S ++ w.take (k + 1)) (S ++ w.take (k + 1)).length u)) 40
    rw [ah_fs, ah_e1]; omega
def ah_ins (P : ah_Pt) (n : Nat) (w : List Nat) : ah_Pt := fun i => if i = n then some (w, []) else P i
def ah_rep (P : ah_Pt) (i : Nat) (w r : List Nat) : ah_Pt := fun j => if j = i then some (w, r) else P j
def ah_del (P : ah_Pt) (i : Nat) : ah_Pt := fun j => if j = i then none else P j
def ah_can (P : ah_Pt) (n : Nat) (dr : List Nat) : Bool := decide (dr ≠ []) && !(ah_any (ah_sat P (fun u => decide (u = dr))) 40) && !(decide (20 ≤ pu_cn (fun i => (P i).isSome) 40) || decide (40 ≤ n))
/-- how the numbers that hold change with one place -/
theorem pu_cn_up {p q : Nat → Bool} {i : Nat} : ∀ {n : Nat}, i < n → (∀ j, j ≠ i → q j = p j) → pu_cn q n + (if p i then 1 else 0) = pu_cn p n + (if q i then 1 else 0)
  | 0, h, _ => absurd h (Nat.not_lt_zero _)
  | n + 1, h, he => by
    by_cases e : i = n
    · subst e
      have := pu_cn_congr (p := q) (q := p) (n := i) (fun j hj => he j (by omega))
      simp only [pu_cn]; omega
    · have ih := pu_cn_up (p := p) (q := q) (n := n) (by omega) he
      have := he n (Ne.symm e)
      simp only [pu_cn, this]; omega
theorem ah_cn_ins {P : ah_Pt} {n : Nat} {w : List Nat} (hn : n < 40) (hp : P n = none) : pu_cn (fun i => (ah_ins P n w i).isSome) 40 = pu_cn (fun i => (P i).isSome) 40 + 1 := by
  have h := pu_cn_up (p := fun i => (P i).isSome) (q := fun i => (ah_ins P n w i).isSome) hn (fun j hj => by simp [ah_ins, hj])
  simp [hp, ah_ins] at h
  simpa [ah_ins] using h
theorem ah_cn_del {P : ah_Pt} {i : Nat} (hi : i < 40) (hp : (P i).isSome = true) : pu_cn (fun j => (ah_del P i j).isSome) 40 + 1 = pu_cn (fun i => (P i).isSome) 40 := by
  have h := pu_cn_up (p := fun i => (P i).isSome) (q := fun j => (ah_del P i j).isSome) hi (fun j hj => by simp [ah_del, hj])
  simp [hp, ah_del] at h
  simpa [ah_del] using h
theorem ah_cn_rep {P : ah_Pt} {i : Nat} {w r : List Nat} (hp : (P i).isSome = true) : pu_cn (fun j => (ah_rep P i w r j).isSome) 40 = pu_cn (fun i => (P i).isSome) 40 := pu_cn_congr (fun j _ => by
  by_cases e : j = i
  · subst e; simp [ah_rep, hp]
  · simp [ah_rep, e])
def ah_kw (F F1 : ah_F) : Prop := ∀ (a ci : Nat) (fs : List Value), (ci = 2 ∨ ci = 5) → F a = some (.inr (ci, fs)) → F1 a = some (.inr (ci, fs))
theorem ah_kw_c {F F1 : ah_F} {L : List Nat} (hc : ah_ch F F1 L) (hL : ∀ a ∈ L, ah_nr F a) : ah_kw F F1 := fun a ci fs hci hF => by rw [hc a (fun hm => hL a hm ci fs hci hF)]; exact hF
theorem ah_kw_t {F F1 F2 : ah_F} (h : ah_kw F F1) (h2 : ah_kw F1 F2) : ah_kw F F2 := fun a ci fs hc hF => h2 a ci fs hc (h a ci fs hc hF)
theorem ah_kw_r (F : ah_F) : ah_kw F F := fun _ _ _ _ h => h
theorem ah_rows_ins {F F1 : ah_F} {rf : Nat → Option Nat} {P : ah_Pt} {n q wa z : Nat} {w : List Nat} (h : ah_rows F rf P) (hk : ah_kw F F1) (hq : F1 q = some (.inr (2, [.int (nI n), .ref wa, .ref z]))) (hw : ah_wd F1 wa w) (hz : ah_wd F1 z []) (hok : ah_ok w) (hne : w ≠ []) : ah_rows F1 (va_up rf n (some q)) (ah_ins P n w) := by
  intro i hi
  by_cases e : i = n
  · subst e
    exact Or.inr ⟨w, [], q, wa, z, by simp [ah_ins], va_up_self _ _ _, hq, hw, hz, hok, ⟨by simp, fun x hx => by simp at hx⟩, hne⟩
  · rw [va_up_ne _ _ e, show ah_ins P n w i = P i by simp [ah_ins, e]]
    exact h.keep hk i hi
theorem ah_rows_del {F F1 : ah_F} {rf : Nat → Option Nat} {P : ah_Pt} {n : Nat} (h : ah_rows F rf P) (hk : ah_kw F F1) : ah_rows F1 (va_up rf n none) (ah_del P n) := by
  intro i hi
  by_cases e : i = n
  · subst e
    exact Or.inl ⟨by simp [ah_del], va_up_self _ _ _⟩
  · rw [va_up_ne _ _ e, show ah_del P n i = P i by simp [ah_del, e]]
    exact h.keep hk i hi
theorem ah_rows_rep {F F1 : ah_F} {rf : Nat → Option Nat} {P : ah_Pt} {n q lw lr : Nat} {w r : List Nat} (h : ah_rows F rf P) (hn : n < 40) (hrf : rf n = some q) (hp : P n = some (w, r)) {L : List Nat} {w2 : Nat} {r2 : List Nat} (hc : ah_ch F F1 (q :: L)) (hL : ∀ a ∈ L, ah_nr F a) (hF : F q = some (.inr (2, [.int (nI n), .ref lw, .ref lr]))) (hq : F1 q = some (.inr (2, [.int (nI n), .ref lw, .ref w2]))) (hw2 : ah_wd F1 w2 r2) (hr2 : ah_ok r2) : ah_rows F1 rf (ah_rep P n w r2) := by
  have hwd : ∀ (a : Nat) (fs : List Value), F a = some (.inr (5, fs)) → F1 a = some (.inr (5, fs)) := fun a fs ha => by
    rw [hc a (fun hm => ?_)]
    · exact ha
    · rcases List.mem_cons.mp hm with e | hm
      · subst e; rw [hF] at ha; cases ha
      · exact hL a hm 5 fs (Or.inr rfl) ha
  intro i hi
  rcases h i hi with ⟨h1, h2⟩ | ⟨w', r', q', lw', lr', h1, h2, h3, h4, h5, h6, h7, h8⟩
  · have e : i ≠ n := fun e => by subst e; rw [hp] at h1; cases h1
    exact Or.inl ⟨by simp [ah_rep, e, h1], h2⟩
  · by_cases e : i = n
    · subst e
      rw [hp] at h1; cases h1
      rw [hrf] at h2; cases h2
      rw [hF] at h3; cases h3
      exact Or.inr ⟨w, r2, q, lw, w2, by simp [ah_rep], hrf, hq, hwd _ _ h4, hw2, h6, hr2, h8⟩
    · have hqq : q' ≠ q := fun e2 => by
        subst e2
        rw [hF] at h3
        have h9 : nI n = nI i := congrArg (fun o : Option va_E => match o with
          | some (.inr (_, (.int v) :: _)) => v
          | _ => 0) h3
        exact e ((nI_eq (by omega) (by omega)).mp h9).symm
      refine Or.inr ⟨w', r', q', lw', lr', by simp [ah_rep, e, h1], h2, ?_, hwd _ _ h4, hwd _ _ h5, h6, h7, h8⟩
      rw [hc q' (fun hm => ?_)]
      · exact h3
      · rcases List.mem_cons.mp hm with e3 | hm
        · exact hqq e3
        · exact hL q' hm 2 _ (Or.inl rfl) h3
theorem ah_str_nil {lf : Nat → Int64} {S : List Nat} (h : ah_str lf S) : ah_str lf [] := ⟨by simp, fun x hx => by simp at hx, fun i hi => by
  have : i = 0 := by simpa using hi
  subst this
  have := h.2.2 0 (Nat.zero_le _)
  rw [this]; rfl⟩
