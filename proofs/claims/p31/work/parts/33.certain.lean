/-! the text so far, and what is certain of it -/
def pz_C (P : ah_Pt) (S : List Nat) (k : Nat) : Nat × ah_Ch := ah_cpl P (ah_n0 P S) k
def pz_T (P : ah_Pt) (S : List Nat) (k : Nat) : List Nat := ah_tp P S (pz_C P S k).2 (pz_C P S k).2.length ++ (S.take k).drop (pz_C P S k).1
theorem pz_tpa {P : ah_Pt} {S : List Nat} {L : ah_Ch} {y : Nat × Nat} : ∀ {t : Nat}, t ≤ L.length → ah_tp P S (L ++ [y]) t = ah_tp P S L t
  | 0, _ => rfl
  | t + 1, h => by
    have hLt : L[t]? = some ((L[t]).1, (L[t]).2) := List.getElem?_eq_getElem (by omega)
    have hLt2 : (L ++ [y])[t]? = some ((L[t]).1, (L[t]).2) := by rw [List.getElem?_append_left (by omega)]; exact hLt
    rw [ah_tp_s hLt, ah_tp_s hLt2, pz_tpa (by omega), ah_pe_app (by omega)]
theorem pz_0 (P : ah_Pt) (S : List Nat) : pz_T P S 0 = [] := rfl
theorem pz_o {P : ah_Pt} {S : List Nat} {k : Nat} (h : k < (pz_C P S k).1) : pz_C P S (k + 1) = pz_C P S k ∧ pz_T P S (k + 1) = pz_T P S k := by
  have e : pz_C P S (k + 1) = pz_C P S k := ah_cpl_o h
  refine ⟨e, ?_⟩
  unfold pz_T
  rw [e, List.drop_eq_nil_of_le (by rw [List.length_take]; omega), List.drop_eq_nil_of_le (by rw [List.length_take]; omega)]
theorem pz_n {P : ah_Pt} {S : List Nat} {k : Nat} (hk : k < S.length) (h : (pz_C P S k).1 ≤ k) (hn : ah_n0 P S k = none) : pz_C P S (k + 1) = pz_C P S k ∧ pz_T P S (k + 1) = pz_T P S k ++ [S.getD k 0] := by
  have e : pz_C P S (k + 1) = pz_C P S k := ah_cpl_n hn
  refine ⟨e, ?_⟩
  unfold pz_T
  rw [e, ah_dt_s hk h, List.append_assoc]
theorem pz_s {P : ah_Pt} {S : List Nat} {k j : Nat} (hok : ah_Pok P) (h : (pz_C P S k).1 ≤ k) (hn : ah_n0 P S k = some j) : pz_C P S (k + 1) = (k + (ah_w P j).length, (pz_C P S k).2 ++ [(j, k)]) ∧ pz_T P S (k + 1) = pz_T P S k ++ ah_r P j := by
  have e : pz_C P S (k + 1) = (k + (ah_w P j).length, (pz_C P S k).2 ++ [(j, k)]) := ah_cpl_s h hn
  refine ⟨e, ?_⟩
  obtain ⟨hj, hs⟩ := ah_n0_ok P S k j hn
  obtain ⟨w, r, hp, -⟩ := ah_sat_t hs
  have hw := List.length_pos_iff.mpr (hok j w r hp).2.2
  have hfr : (pz_C P S k).1 = ah_pe P (pz_C P S k).2 (pz_C P S k).2.length := (ah_cpl_chn hok (ah_n0_ok P S) k).2.1
  have hg : ((pz_C P S k).2 ++ [(j, k)])[(pz_C P S k).2.length]? = some (j, k) := by
    rw [List.getElem?_append_right (Nat.le_refl _), Nat.sub_self]
    rfl
  unfold pz_T
  rw [e]
  show ah_tp P S ((pz_C P S k).2 ++ [(j, k)]) ((pz_C P S k).2 ++ [(j, k)]).length ++ (S.take (k + 1)).drop (k + (ah_w P j).length) = _
  rw [List.drop_eq_nil_of_le (by rw [List.length_take, ah_w_s hp]; omega), List.append_nil, List.length_append]
  show ah_tp P S ((pz_C P S k).2 ++ [(j, k)]) ((pz_C P S k).2.length + 1) = _
  rw [ah_tp_s hg, pz_tpa (Nat.le_refl _), ah_pe_app (Nat.le_refl _), ← hfr]
theorem pz_ct {P : ah_Pt} {S : List Nat} (hok : ah_Pok P) : ∀ k, k ≤ S.length → ∃ k0, k0 ≤ k ∧ (ah_ct P S k).2.1 = (pz_T P S k0).length ∧ ((ah_ct P S k).2.2 = false → k0 = k ∧ (ah_ct P S k).1 = (pz_C P S k).1) ∧ ∀ k', k' < k0 → (pz_C P S k').1 ≤ k' → ah_gr P S k' = false
  | 0, _ => ⟨0, Nat.le_refl 0, rfl, fun _ => ⟨rfl, rfl⟩, fun k' h => absurd h (Nat.not_lt_zero _)⟩
  | k + 1, hk => by
    obtain ⟨k0, h1, h2, h3, h4⟩ := pz_ct (S := S) hok k (by omega)
    rcases e : ah_ct P S k with ⟨fr, c, st⟩
    rw [e] at h2 h3
    cases st with
    | true =>
      have e1 : ah_ct P S (k + 1) = (fr, c, true) := ah_ct_stop e 1
      rw [e1]
      exact ⟨k0, by omega, h2, (fun h => by cases h), h4⟩
    | false =>
      obtain ⟨h5, h6⟩ := h3 rfl
      subst h5
      have h6 : fr = (pz_C P S k0).1 := h6
      have h2 : c = (pz_T P S k0).length := h2
      by_cases hf : fr ≤ k0
      · cases hg : ah_gr P S k0 with
        | true =>
          rw [ah_ct_g e hf hg]
          exact ⟨k0, by omega, h2, (fun h => by cases h), h4⟩
        | false =>
          have h7 : ∀ k', k' < k0 + 1 → (pz_C P S k').1 ≤ k' → ah_gr P S k' = false := fun k' hk' hf' => by
            by_cases e9 : k' = k0
            · rw [e9]; exact hg
            · exact h4 k' (by omega) hf'
          cases hn : ah_n0 P S k0 with
          | none =>
            obtain ⟨g1, g2⟩ := pz_n (by omega) (by rw [← h6]; exact hf) hn
            rw [ah_ct_n e hf hg hn]
            exact ⟨k0 + 1, Nat.le_refl _, by rw [g2, List.length_append, ← h2]; rfl, fun _ => ⟨rfl, by rw [g1]; exact h6⟩, h7⟩
          | some j =>
            obtain ⟨g1, g2⟩ := pz_s hok (by rw [← h6]; exact hf) hn
            rw [ah_ct_s e hf hg hn]
            exact ⟨k0 + 1, Nat.le_refl _, by rw [g2, List.length_append, ← h2], fun _ => ⟨rfl, by rw [g1]⟩, h7⟩
      · obtain ⟨g1, g2⟩ := pz_o (P := P) (S := S) (k := k0) (by omega)
        rw [ah_ct_o e (by omega)]
        exact ⟨k0 + 1, Nat.le_refl _, by rw [g2]; exact h2, fun _ => ⟨rfl, by rw [g1]; exact h6⟩, fun k' hk' hf' => by
          by_cases e9 : k' = k0
          · rw [e9] at hf'; omega
          · exact h4 k' (by omega) hf'⟩
theorem pz_pre {P : ah_Pt} {S : List Nat} (hok : ah_Pok P) (k : Nat) : ∀ d, k + d ≤ S.length → ∃ x, pz_T P S (k + d) = pz_T P S k ++ x
  | 0, _ => ⟨[], by simp⟩
  | d + 1, h => by
    obtain ⟨x, hx⟩ := pz_pre (S := S) hok k d (by omega)
    by_cases hf : (pz_C P S (k + d)).1 ≤ k + d
    · cases hn : ah_n0 P S (k + d) with
      | none => exact ⟨x ++ [S.getD (k + d) 0], by rw [← Nat.add_assoc, (pz_n (by omega) hf hn).2, hx, List.append_assoc]⟩
      | some j => exact ⟨x ++ ah_r P j, by rw [← Nat.add_assoc, (pz_s hok hf hn).2, hx, List.append_assoc]⟩
    · exact ⟨x, by rw [← Nat.add_assoc, (pz_o (by omega)).2, hx]⟩
theorem pz_tx {P : ah_Pt} {S : List Nat} (hok : ah_Pok P) : pz_T P S S.length = ah_tx P S (ah_chs P S 0) := by
  have hfr : (pz_C P S S.length).1 = ah_pe P (pz_C P S S.length).2 (pz_C P S S.length).2.length := (ah_cpl_chn hok (ah_n0_ok P S) S.length).2.1
  have e : ah_chs P S 0 = (pz_C P S S.length).2 := by rw [ah_chs, if_neg (by decide), if_pos rfl]; rfl
  rw [e]
  unfold pz_T ah_tx
  rw [hfr]
/-- what is certain is there -/
theorem pz_le {P : ah_Pt} {S : List Nat} (hok : ah_Pok P) : (ah_ct P S S.length).2.1 ≤ (ah_tx P S (ah_chs P S 0)).length := by
  obtain ⟨k0, h1, h2, -⟩ := pz_ct (S := S) hok S.length (Nat.le_refl _)
  obtain ⟨x, hx⟩ := pz_pre (S := S) hok k0 (S.length - k0) (by omega)
  rw [show k0 + (S.length - k0) = S.length by omega, pz_tx hok] at hx
  rw [h2, hx, List.length_append]
  omega
/-! one letter more -/
theorem pz_bestc {P : ah_Pt} {f g : List Nat → Bool} : ∀ {n : Nat}, (∀ i, i < n → ah_sat P f i = ah_sat P g i) → ah_best P f n = ah_best P g n
  | 0, _ => rfl
  | n + 1, h => by rw [ah_best, ah_best, pz_bestc (fun i hi => h i (by omega)), h n (by omega)]
theorem pz_step {P : ah_Pt} {S : List Nat} {y k : Nat} (hok : ah_Pok P) (hk : k < S.length) (hg : ah_gr P S k = false) : ah_n0 P (S ++ [y]) k = ah_n0 P S k ∧ ah_gr P (S ++ [y]) k = false := by
  have hd : (S ++ [y]).drop k = S.drop k ++ [y] := List.drop_append_of_le_length (by omega)
  have hl : (S.drop k).length = S.length - k := List.length_drop
  have hno : ∀ (i : Nat) (w r : List Nat), i < 40 → P i = some (w, r) → S.length - k + 1 ≤ w.length → w.take (S.length - k) ≠ S.drop k := by
    intro i w r hi hp hw e
    have h1 : ah_gr P S k = true := ah_any_t hi (by rw [ah_sat_s hp, decide_eq_true hw, Bool.true_and, ah_bw, hl]; exact decide_eq_true e)
    rw [hg] at h1; cases h1
  constructor
  · refine pz_bestc (fun i hi => ?_)
    cases hp : P i with
    | none => rw [ah_sat_n hp, ah_sat_n hp]
    | some z =>
      obtain ⟨w, r⟩ := z
      rw [ah_sat_s hp, ah_sat_s hp]
      by_cases hw : w.length ≤ S.length - k
      · unfold ah_at
        rw [hd, List.take_append_of_le_length (by omega)]
      · rw [ah_at_out (S := S) (by omega) (hok i w r hp).2.2]
        unfold ah_at
        rw [hd, decide_eq_false_iff_not]
        intro e
        rw [List.take_of_length_le (by rw [List.length_append, hl]; show S.length - k + 1 ≤ _; omega)] at e
        refine hno i w r hi hp (by omega) ?_
        rw [← e, ← hl, List.take_append_of_le_length (Nat.le_refl _), List.take_length]
  · refine ah_any_none (fun i w r hi hp => ?_)
    by_cases hw : (S ++ [y]).length - k + 1 ≤ w.length
    · rw [decide_eq_true hw, Bool.true_and, ah_bw, hd, decide_eq_false_iff_not]
      intro e
      have e3 := congrArg (List.take (S.length - k)) e
      rw [List.take_take, Nat.min_eq_left (by rw [List.length_append, hl]; omega), List.take_append_of_le_length (by omega)] at e3
      have e2 : w.take (S.length - k) = S.drop k := e3.trans (List.take_of_length_le (by omega))
      simp only [List.length_append, List.length_cons, List.length_nil] at hw
      exact hno i w r hi hp (by omega) e2
    · rw [decide_eq_false hw, Bool.false_and]
theorem pz_tps {P : ah_Pt} {S : List Nat} {y : Nat} {L : ah_Ch} (hL : ah_chn P S L) : ∀ t, t ≤ L.length → ah_tp P (S ++ [y]) L t = ah_tp P S L t
  | 0, _ => rfl
  | t + 1, ht => by
    have hLt : L[t]? = some ((L[t]).1, (L[t]).2) := List.getElem?_eq_getElem (by omega)
    have h1 := (hL t _ _ hLt).2.1
    rw [ah_tp_s hLt, ah_tp_s hLt, pz_tps hL t (by omega), List.take_append_of_le_length (by omega)]
theorem pz_go {P : ah_Pt} {S : List Nat} {y : Nat} (hok : ah_Pok P) : ∀ k, k ≤ S.length → (∀ k', k' < k → (pz_C P S k').1 ≤ k' → ah_gr P S k' = false) → pz_C P (S ++ [y]) k = pz_C P S k ∧ ah_ct P (S ++ [y]) k = ((pz_C P S k).1, (pz_T P S k).length, false)
  | 0, _, _ => ⟨rfl, rfl⟩
  | k + 1, hk, hg => by
    obtain ⟨h1, h2⟩ := pz_go (S := S) (y := y) hok k (by omega) (fun k' hk' => hg k' (by omega))
    by_cases hf : (pz_C P S k).1 ≤ k
    · have hgk := hg k (by omega) hf
      obtain ⟨h3, h4⟩ := pz_step (y := y) hok (by omega) hgk
      cases hn : ah_n0 P S k with
      | none =>
        obtain ⟨g1, g2⟩ := pz_n (by omega) hf hn
        refine ⟨?_, ?_⟩
        · rw [g1, ← h1]; exact ah_cpl_n (by rw [h3]; exact hn)
        · rw [ah_ct_n h2 hf h4 (by rw [h3]; exact hn), g1, g2, List.length_append]; rfl
      | some j =>
        obtain ⟨g1, g2⟩ := pz_s hok hf hn
        refine ⟨?_, ?_⟩
        · have h9 : pz_C P (S ++ [y]) (k + 1) = (k + (ah_w P j).length, (pz_C P (S ++ [y]) k).2 ++ [(j, k)]) := ah_cpl_s (by show (pz_C P (S ++ [y]) k).1 ≤ k; rw [h1]; exact hf) (by rw [h3]; exact hn)
          rw [g1, h9, h1]
        · rw [ah_ct_s h2 hf h4 (by rw [h3]; exact hn), g1, g2, List.length_append]
    · obtain ⟨g1, g2⟩ := pz_o (P := P) (S := S) (k := k) (by omega)
      refine ⟨?_, ?_⟩
      · have h9 : pz_C P (S ++ [y]) (k + 1) = pz_C P (S ++ [y]) k := ah_cpl_o (by show k < (pz_C P (S ++ [y]) k).1; rw [h1]; omega)
        rw [g1, h9, h1]
      · rw [ah_ct_o h2 (by omega), g1, g2]
theorem pz_mono (P : ah_Pt) (S : List Nat) (k : Nat) : ∀ d, (ah_ct P S k).2.1 ≤ (ah_ct P S (k + d)).2.1
  | 0 => Nat.le_refl _
  | d + 1 => by
    refine Nat.le_trans (pz_mono P S k d) ?_
    rw [← Nat.add_assoc]
    rcases e : ah_ct P S (k + d) with ⟨fr, c, st⟩
    cases st with
    | true => rw [show ah_ct P S (k + d + 1) = (fr, c, true) from ah_ct_stop e 1]; exact Nat.le_refl _
    | false =>
      by_cases hf : fr ≤ k + d
      · cases hg : ah_gr P S (k + d) with
        | true => rw [ah_ct_g e hf hg]; exact Nat.le_refl _
        | false =>
          cases hn : ah_n0 P S (k + d) with
          | none => rw [ah_ct_n e hf hg hn]; exact Nat.le_succ _
          | some j => rw [ah_ct_s e hf hg hn]; exact Nat.le_add_right _ _
      · rw [ah_ct_o e (by omega)]; exact Nat.le_refl _
/-- what was certain stays -/
theorem pz_feed {P : ah_Pt} {S : List Nat} {y : Nat} (hok : ah_Pok P) : (ah_ct P S S.length).2.1 ≤ (ah_ct P (S ++ [y]) (S ++ [y]).length).2.1 ∧ ∀ i, i < (ah_ct P S S.length).2.1 → (ah_tx P (S ++ [y]) (ah_chs P (S ++ [y]) 0)).getD i 0 = (ah_tx P S (ah_chs P S 0)).getD i 0 := by
  obtain ⟨k0, h1, h2, -, h4⟩ := pz_ct (S := S) hok S.length (Nat.le_refl _)
  obtain ⟨h5, h6⟩ := pz_go (y := y) hok k0 h1 h4
  have hl : (S ++ [y]).length = S.length + 1 := by simp
  have hT : pz_T P (S ++ [y]) k0 = pz_T P S k0 := by
    have hL : ah_chn P S (pz_C P S k0).2 := (ah_cpl_chn hok (ah_n0_ok P S) k0).1
    unfold pz_T
    rw [h5, pz_tps hL _ (Nat.le_refl _), List.take_append_of_le_length h1]
  constructor
  · have h7 := pz_mono P (S ++ [y]) k0 (S.length + 1 - k0)
    rw [h6, show k0 + (S.length + 1 - k0) = S.length + 1 by omega] at h7
    rw [h2, hl]; exact h7
  · intro i hi
    rw [h2] at hi
    obtain ⟨x, hx⟩ := pz_pre (S := S) hok k0 (S.length - k0) (by omega)
    rw [show k0 + (S.length - k0) = S.length by omega, pz_tx hok] at hx
    obtain ⟨x2, hx2⟩ := pz_pre (S := S ++ [y]) hok k0 (S.length + 1 - k0) (by omega)
    rw [show k0 + (S.length + 1 - k0) = (S ++ [y]).length by omega, pz_tx hok, hT] at hx2
    rw [hx, hx2, List.getD_eq_getElem?_getD, List.getD_eq_getElem?_getD, List.getElem?_append_left hi, List.getElem?_append_left hi]
