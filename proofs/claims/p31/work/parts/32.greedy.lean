/-! earliest end first is the most that fits -/
theorem pg_best {P : ah_Pt} {f : List Nat → Bool} : ∀ {n : Nat}, ah_best P f n = none → ∀ i, i < n → ah_sat P f i = false
  | 0, _, i, hi => absurd hi (Nat.not_lt_zero _)
  | n + 1, h, i, hi => by
    cases hs : ah_sat P f n with
    | false =>
      rw [ah_best_f hs] at h
      by_cases e : i = n
      · subst e; exact hs
      · exact pg_best h i (by omega)
    | true =>
      exfalso
      rw [ah_best, if_pos hs] at h
      split at h
      · cases h
      · split at h <;> cases h
theorem pg_long {P : ah_Pt} {f : List Nat → Bool} : ∀ {n i : Nat}, i < n → ah_sat P f i = true → ∃ j, ah_best P f n = some j ∧ (ah_w P i).length ≤ (ah_w P j).length
  | 0, i, hi, _ => absurd hi (Nat.not_lt_zero _)
  | n + 1, i, hi, hs => by
    by_cases e : i = n
    · subst e
      cases hb : ah_best P f i with
      | none => exact ⟨i, ah_best_0 hs hb, Nat.le_refl _⟩
      | some j =>
        by_cases hl : (ah_w P j).length < (ah_w P i).length
        · exact ⟨i, ah_best_g hs hb hl, Nat.le_refl _⟩
        · exact ⟨j, ah_best_k hs hb (by omega), by omega⟩
    · obtain ⟨j, h1, h2⟩ := pg_long (f := f) (n := n) (by omega) hs
      cases hn : ah_sat P f n with
      | false => exact ⟨j, by rw [ah_best_f hn]; exact h1, h2⟩
      | true =>
        by_cases hl : (ah_w P j).length < (ah_w P n).length
        · exact ⟨n, ah_best_g hn h1 hl, by omega⟩
        · exact ⟨j, ah_best_k hn h1 (by omega), h2⟩
theorem pg_most {P : ah_Pt} {S : List Nat} {L : ah_Ch} (hok : ah_Pok P) (hL : ah_chn P S L) : ∀ e, e ≤ S.length → ∀ t, t ≤ L.length → ah_pe P L t ≤ e → t ≤ (ah_cel P S e).2.length ∧ (t = (ah_cel P S e).2.length → (ah_cel P S e).1 ≤ ah_pe P L t)
  | 0, _, t, ht, hp => by
    cases t with
    | zero => exact ⟨Nat.zero_le _, fun _ => Nat.zero_le _⟩
    | succ t =>
      have hLt : L[t]? = some ((L[t]).1, (L[t]).2) := List.getElem?_eq_getElem (by omega)
      obtain ⟨h1, h2, h3, h4, h5⟩ := hL t (L[t]).1 (L[t]).2 hLt
      have h6 := (ah_w_ok hok h4).2.2
      rw [ah_pe_s hLt] at hp
      omega
  | e + 1, he, t, ht, hp => by
    have hfr := (ah_cel_chn (P := P) (S := S) (e + 1) he).2.2
    have hfr0 := (ah_cel_chn (P := P) (S := S) e (by omega)).2.2
    by_cases hpe : ah_pe P L t ≤ e
    · obtain ⟨g1, g2⟩ := pg_most hok hL e (by omega) t ht hpe
      cases hw : ah_wi P S (ah_cel P S e).1 (e + 1) with
      | none => rw [ah_cel_n hw]; exact ⟨g1, g2⟩
      | some j =>
        rw [ah_cel_s hw]
        refine ⟨by rw [List.length_append]; omega, fun h => ?_⟩
        rw [List.length_append] at h
        simp only [List.length_cons, List.length_nil] at h
        omega
    · cases t with
      | zero => exact absurd (Nat.zero_le _) hpe
      | succ t =>
        have hLt : L[t]? = some ((L[t]).1, (L[t]).2) := List.getElem?_eq_getElem (by omega)
        obtain ⟨h1, h2, h3, h4, h5⟩ := hL t (L[t]).1 (L[t]).2 hLt
        have h6 := (ah_w_ok hok h4).2.2
        rw [ah_pe_s hLt] at hp hpe ⊢
        obtain ⟨g1, g2⟩ := pg_most hok hL e (by omega) t (by omega) (by omega)
        cases hw : ah_wi P S (ah_cel P S e).1 (e + 1) with
        | none =>
          rw [ah_cel_n hw]
          by_cases ht2 : t = (ah_cel P S e).2.length
          · exfalso
            have h7 := g2 ht2
            have h8 := pg_best hw (L[t]).1 h3
            cases hp2 : P (L[t]).1 with
            | none => rw [hp2] at h4; cases h4
            | some y =>
              obtain ⟨w, r⟩ := y
              rw [ah_w_s hp2] at h2 h5 h6 hp hpe
              rw [ah_sat_s hp2, decide_eq_true (by omega), Bool.true_and] at h8
              have h9 : ah_en S (e + 1) w = true := by
                rw [ah_en, decide_eq_true (by omega), Bool.true_and, show e + 1 - w.length = (L[t]).2 by omega]
                exact h5
              rw [h9] at h8; cases h8
          · exact ⟨by omega, fun h => by omega⟩
        | some j =>
          rw [ah_cel_s hw]
          refine ⟨by rw [List.length_append]; simp only [List.length_cons, List.length_nil]; omega, fun h => ?_⟩
          show e + 1 ≤ _
          omega
theorem pg_chs {P : ah_Pt} {S : List Nat} (hok : ah_Pok P) (ru : Nat) : (ah_chs P S ru).length ≤ (ah_chs P S 2).length := by
  have hL := ah_chs_chn (S := S) hok ru
  have h := (pg_most hok hL S.length (Nat.le_refl _) _ (Nat.le_refl _) (ah_pe_le hL _ (Nat.le_refl _))).1
  rw [show ah_chs P S 2 = (ah_cel P S S.length).2 from by rw [ah_chs, if_pos rfl]]
  exact h
/-! the letters covered -/
def pv_c (P : ah_Pt) (S : List Nat) (k : Nat) : Bool := decide (k < (ah_cv P S (k + 1)).1)
theorem pv_cnt (P : ah_Pt) (S : List Nat) : ∀ k, (ah_cv P S k).2 = pu_cn (pv_c P S) k
  | 0 => rfl
  | k + 1 => by
    show (ah_cv P S k).2 + (if k < ah_cvr P S k (ah_cv P S k).1 then 1 else 0) = _
    rw [pv_cnt P S k]
    by_cases h : k < ah_cvr P S k (ah_cv P S k).1
    · rw [if_pos h, pu_cn_t (p := pv_c P S) (by show decide (k < ah_cvr P S k (ah_cv P S k).1) = true; exact decide_eq_true h)]
    · rw [if_neg h, pu_cn_f (p := pv_c P S) (by show decide (k < ah_cvr P S k (ah_cv P S k).1) = false; exact decide_eq_false h)]
      rfl
theorem pv_r (P : ah_Pt) (S : List Nat) (k rch : Nat) : rch ≤ ah_cvr P S k rch := by
  unfold ah_cvr
  split
  · exact Nat.le_refl _
  · exact Nat.le_max_left _ _
theorem pv_mono (P : ah_Pt) (S : List Nat) (a : Nat) : ∀ d, (ah_cv P S a).1 ≤ (ah_cv P S (a + d)).1
  | 0 => Nat.le_refl _
  | d + 1 => Nat.le_trans (pv_mono P S a d) (pv_r P S (a + d) (ah_cv P S (a + d)).1)
theorem pv_at {P : ah_Pt} {S w r : List Nat} {i j : Nat} (hj : j < 40) (hp : P j = some (w, r)) (h : ah_at S i w = true) : ∀ k, i ≤ k → k < i + w.length → pv_c P S k = true := by
  intro k h1 h2
  obtain ⟨b, hb, hl⟩ := pg_long (f := fun w => ah_at S i w) hj (by rw [ah_sat_s hp]; exact h)
  rw [ah_w_s hp] at hl
  have e1 : i + w.length ≤ (ah_cv P S (i + 1)).1 := by
    show _ ≤ ah_cvr P S i (ah_cv P S i).1
    have hn : ah_n0 P S i = some b := hb
    unfold ah_cvr
    rw [hn]
    exact Nat.le_trans (by omega) (Nat.le_max_right _ _)
  have e2 := pv_mono P S (i + 1) (k - i)
  rw [show i + 1 + (k - i) = k + 1 by omega] at e2
  exact decide_eq_true (by omega)
theorem pv_step {P : ah_Pt} {S : List Nat} {L : ah_Ch} {t j i a : Nat} (hL : ah_chn P S L) (hLt : L[t]? = some (j, i)) (ha : a ≤ pu_cn (pv_c P S) (ah_pe P L t)) : a + (ah_w P j).length ≤ pu_cn (pv_c P S) (ah_pe P L (t + 1)) := by
  obtain ⟨h1, h2, h3, h4, h5⟩ := hL t j i hLt
  cases hp : P j with
  | none => rw [hp] at h4; cases h4
  | some y =>
    obtain ⟨w, r⟩ := y
    rw [ah_pe_s hLt]
    rw [ah_w_s hp] at h5 ⊢
    rw [pc_on w.length (pv_at h3 hp h5)]
    have := pu_cn_mono (pv_c P S) h1
    omega
/-! the length of the replaced stream, chosen occurrence by chosen occurrence -/
def pt_l (P : ah_Pt) (S : List Nat) (L : ah_Ch) (t : Nat) : Nat := (ah_tp P S L t).length + (S.length - ah_pe P L t)
theorem pt_0 (P : ah_Pt) (S : List Nat) (L : ah_Ch) : pt_l P S L 0 = S.length := by
  show ([] : List Nat).length + (S.length - 0) = _
  simp
theorem pt_s {P : ah_Pt} {S : List Nat} {L : ah_Ch} {t j i : Nat} (hL : ah_chn P S L) (hLt : L[t]? = some (j, i)) : (ah_w P j).length ≤ pt_l P S L t ∧ pt_l P S L (t + 1) = pt_l P S L t - (ah_w P j).length + (ah_r P j).length := by
  obtain ⟨h1, h2, h3, h4, h5⟩ := hL t j i hLt
  unfold pt_l
  rw [ah_tp_s hLt, ah_pe_s hLt, List.length_append, List.length_append, List.length_drop, List.length_take]
  omega
theorem pt_e (P : ah_Pt) (S : List Nat) (L : ah_Ch) : pt_l P S L L.length = (ah_tx P S L).length := by
  unfold pt_l ah_tx
  rw [List.length_append, List.take_length, List.length_drop]
theorem pt_le {P : ah_Pt} {S : List Nat} {L : ah_Ch} (hok : ah_Pok P) (hL : ah_chn P S L) {t : Nat} (ht : t ≤ L.length) : pt_l P S L t ≤ 8 * S.length := by
  have h1 := ah_tp_len hok hL t ht
  have h2 := ah_pe_le hL t ht
  unfold pt_l
  omega
theorem pi_as {a w r : Nat} (h : w ≤ a) : nI a + (nI r - nI w) = nI (a - w + r) := by
  have e1 : nI a = nI (a - w) + nI w := by rw [nI_add, Nat.sub_add_cancel h]
  have e2 : nI w + (nI r - nI w) = nI r := by rw [Int32.add_comm, Int32.sub_add_cancel]
  rw [e1, Int32.add_assoc, e2, nI_add]
