/-! what the law keeps in its row of ints; what the class's state gives -/
theorem ah_C_ok {D : ah_G} {F : ah_F} {x n : Nat} {P : ah_Pt} {dr S : List Nat} {td : Int32} (h : ah_C D F x P n dr S td) : ah_Pok P ∧ n ≤ 40 ∧ (∀ i, n ≤ i → P i = none) ∧ S.length ≤ 200 ∧ ah_lt S ∧ ah_ok dr ∧ pu_cn (fun i => (P i).isSome) 40 ≤ 20 := by
  obtain ⟨b, ra, st, la, ch, cp, cl, tx, ta, dw, rf, lf, pf, plf, tf, cc, tc, pr, hxx, hbk, hra, hrows, hst, hla, hstr, hch, hcp, hcl, htx, hta, hdw, hdok, hn40, hPn, hpr, hpr20⟩ := h
  exact ⟨hrows.ok (fun i hi => hPn i (by omega)), hn40, hPn, hstr.1, hstr.2.1, hdok, by omega⟩
theorem ah_C_o {D : ah_G} {F : ah_F} {x o n : Nat} {P : ah_Pt} {dr S : List Nat} {td : Int32} {f : Nat → Int32} {e : va_E} (h : ah_C D F x P n dr S td) (ho : F o = some (ah_ai D 42 f)) : ah_C D (ah_up F o e) x P n dr S td := by
  obtain ⟨b, ra, st, la, ch, cp, cl, tx, ta, dw, rf, lf, pf, plf, tf, cc, tc, pr, hxx, hbk, hra, hrows, hst, hla, hstr, hch, hcp, hcl, htx, hta, hdw, h9⟩ := h
  exact ⟨b, ra, st, la, ch, cp, cl, tx, ta, dw, rf, lf, pf, plf, tf, cc, tc, pr, ah_keep ho hxx rfl, ah_keep ho hbk rfl, ah_keep ho hra rfl,
    hrows.keep (fun a ci fs hci hF => by rcases hci with rfl | rfl <;> exact ah_keep ho hF rfl), ah_keep ho hst rfl, ah_keep ho hla rfl, hstr, ah_keep ho hch rfl, ah_keep ho hcp rfl, ah_keep ho hcl rfl, ah_keep ho htx rfl, ah_keep ho hta rfl, ah_keep ho hdw rfl, h9⟩
theorem ah_C_fr {D : ah_G} {F : ah_F} {x o n : Nat} {P : ah_Pt} {dr S : List Nat} {td : Int32} {z : va_E} (h : ah_C D F x P n dr S td) (ho : F o = none) : ah_C D (ah_up F o z) x P n dr S td := by
  obtain ⟨b, ra, st, la, ch, cp, cl, tx, ta, dw, rf, lf, pf, plf, tf, cc, tc, pr, hxx, hbk, hra, hrows, hst, hla, hstr, hch, hcp, hcl, htx, hta, hdw, h9⟩ := h
  have k : ∀ {a : Nat} {y : va_E}, F a = some y → ah_up F o z a = some y := fun {a y} ha => (ah_up_n _ _ (ah_fr ho ha)).trans ha
  exact ⟨b, ra, st, la, ch, cp, cl, tx, ta, dw, rf, lf, pf, plf, tf, cc, tc, pr, k hxx, k hbk, k hra, hrows.keep (fun a ci fs hci hF => k hF), k hst, k hla, hstr, k hch, k hcp, k hcl, k htx, k hta, k hdw, h9⟩
def pr_l (P : ah_Pt) (k : Nat) : Nat := match P k with
  | none => 0
  | some (_, r) => r.length + 1
theorem pr_l_e {P : ah_Pt} {k : Nat} {w r : List Nat} (h : P k = some (w, r)) : pr_l P k = r.length + 1 := by simp [pr_l, h]
theorem pr_l_0 {P : ah_Pt} {k : Nat} (h : P k = none) : pr_l P k = 0 := by simp [pr_l, h]
theorem pr_l_n {P : ah_Pt} {k : Nat} (h : pr_l P k = 0) : P k = none := by
  cases hp : P k with
  | none => rfl
  | some y =>
    obtain ⟨w, r⟩ := y
    rw [pr_l_e hp] at h; omega
theorem pr_l_s {P : ah_Pt} {k : Nat} (h : 0 < pr_l P k) : ∃ w r : List Nat, P k = some (w, r) := by
  cases hp : P k with
  | none => rw [pr_l_0 hp] at h; omega
  | some y => exact ⟨y.1, y.2, rfl⟩
theorem pr_s {P : ah_Pt} {k : Nat} (h : (P k).isSome = true) : ∃ w r : List Nat, P k = some (w, r) := by
  cases hp : P k with
  | none => rw [hp] at h; cases h
  | some y => exact ⟨y.1, y.2, rfl⟩
theorem pr_l_le {P : ah_Pt} (hok : ah_Pok P) (k : Nat) : pr_l P k ≤ 9 := by
  cases hp : P k with
  | none => rw [pr_l_0 hp]; omega
  | some y =>
    obtain ⟨w, r⟩ := y
    have := (hok k w r hp).2.1.1
    rw [pr_l_e hp]; omega
def pr_R (P : ah_Pt) (n : Nat) (dr : List Nat) (rv : Nat → Int32) : Prop := (∀ k, k < 40 → rv k = nI (pr_l P k)) ∧ rv 40 = nI n ∧ rv 41 = nI dr.length
def pr_S (D : ah_G) (F : ah_F) (x o : Nat) : Prop := ∃ (P : ah_Pt) (n : Nat) (dr S : List Nat) (td : Int32) (rv : Nat → Int32), ah_C D F x P n dr S td ∧ F o = some (ah_ai D 42 rv) ∧ pr_R P n dr rv ∧ pd_D P ∧ S.length ≤ 60
theorem pr_R_dr {P : ah_Pt} {n : Nat} {dr dr2 : List Nat} {rv : Nat → Int32} {d : Nat} (h : pr_R P n dr rv) (hd : d = dr2.length) : pr_R P n dr2 (upd rv 41 (nI d)) := by
  obtain ⟨h1, h2, h3⟩ := h
  exact ⟨fun k hk => by rw [pk_un (by omega)]; exact h1 k hk, by rw [pk_un (by omega)]; exact h2, by rw [pk_us, hd]⟩
theorem pr_R_ins {P : ah_Pt} {n : Nat} {dr : List Nat} {rv : Nat → Int32} (h : pr_R P n dr rv) (hn : n < 40) : pr_R (ah_ins P n dr) (n + 1) [] (upd (upd (upd rv n (nI 1)) 40 (nI (n + 1))) 41 (nI 0)) := by
  obtain ⟨h1, h2, h3⟩ := h
  refine ⟨fun k hk => ?_, ?_, ?_⟩
  · rw [pk_un (by omega), pk_un (by omega)]
    by_cases e : k = n
    · subst e
      rw [pk_us, pr_l_e (w := dr) (r := []) (by simp [ah_ins])]
      rfl
    · rw [pk_un e, h1 k hk]
      simp [pr_l, ah_ins, e]
  · rw [pk_un (by omega), pk_us]
  · rw [pk_us]; rfl
theorem pr_R_rep {P : ah_Pt} {n i : Nat} {dr w : List Nat} {rv : Nat → Int32} (h : pr_R P n dr rv) (hi : i < 40) : pr_R (ah_rep P i w dr) n [] (upd (upd rv i (nI (dr.length + 1))) 41 (nI 0)) := by
  obtain ⟨h1, h2, h3⟩ := h
  refine ⟨fun k hk => ?_, ?_, ?_⟩
  · rw [pk_un (by omega)]
    by_cases e : k = i
    · subst e
      rw [pk_us, pr_l_e (w := w) (r := dr) (by simp [ah_rep])]
    · rw [pk_un e, h1 k hk]
      simp [pr_l, ah_rep, e]
  · rw [pk_un (by omega), pk_un (by omega)]; exact h2
  · rw [pk_us]; rfl
theorem pr_R_del {P : ah_Pt} {n i : Nat} {dr : List Nat} {rv : Nat → Int32} (h : pr_R P n dr rv) (hi : i < 40) : pr_R (ah_del P i) n dr (upd rv i (nI 0)) := by
  obtain ⟨h1, h2, h3⟩ := h
  refine ⟨fun k hk => ?_, ?_, ?_⟩
  · by_cases e : k = i
    · subst e
      rw [pk_us, pr_l_0 (by simp [ah_del])]
    · rw [pk_un e, h1 k hk]
      simp [pr_l, ah_del, e]
  · rw [pk_un (by omega)]; exact h2
  · rw [pk_un (by omega)]; exact h3
theorem pd_0 : pd_D (fun _ => none) := fun i j w r s h => by cases h
theorem pd_ins {P : ah_Pt} {n : Nat} {dr : List Nat} (h : pd_D P) (hn : n ≤ 40) (hP : ∀ i, n ≤ i → P i = none) (hc : ah_can P n dr = true) : pd_D (ah_ins P n dr) := by
  have hno : ∀ (i : Nat) (r : List Nat), P i ≠ some (dr, r) := by
    intro i r hp
    have hi : i < 40 := by
      rcases Nat.lt_or_ge i 40 with g | g
      · exact g
      · rw [hP i (by omega)] at hp; cases hp
    have h1 : ah_any (ah_sat P (fun u => decide (u = dr))) 40 = true := ah_any_t hi (by rw [ah_sat_s hp]; simp)
    unfold ah_can at hc
    rw [h1] at hc
    simp at hc
  intro i j w r s hi hj
  unfold ah_ins at hi hj
  by_cases e1 : i = n
  · rw [if_pos e1] at hi
    cases hi
    by_cases e2 : j = n
    · omega
    · rw [if_neg e2] at hj
      exact absurd hj (hno j s)
  · rw [if_neg e1] at hi
    by_cases e2 : j = n
    · rw [if_pos e2] at hj
      cases hj
      exact absurd hi (hno i r)
    · rw [if_neg e2] at hj
      exact h i j w r s hi hj
theorem pd_rep {P : ah_Pt} {k : Nat} {w r0 dr : List Nat} (h : pd_D P) (hk : P k = some (w, r0)) : pd_D (ah_rep P k w dr) := by
  have hb : ∀ (i : Nat) (u q : List Nat), ah_rep P k w dr i = some (u, q) → ∃ q2, P i = some (u, q2) := by
    intro i u q hi
    unfold ah_rep at hi
    by_cases e : i = k
    · rw [if_pos e] at hi
      cases hi
      exact ⟨r0, by rw [e]; exact hk⟩
    · rw [if_neg e] at hi
      exact ⟨q, hi⟩
  intro i j u r s hi hj
  obtain ⟨q1, g1⟩ := hb i u r hi
  obtain ⟨q2, g2⟩ := hb j u s hj
  exact h i j u q1 q2 g1 g2
theorem pd_del {P : ah_Pt} {k : Nat} (h : pd_D P) : pd_D (ah_del P k) := by
  have hb : ∀ (i : Nat) (y : List Nat × List Nat), ah_del P k i = some y → P i = some y := by
    intro i y hi
    unfold ah_del at hi
    by_cases e : i = k
    · rw [if_pos e] at hi; cases hi
    · rw [if_neg e] at hi; exact hi
  intro i j u r s hi hj
  exact h i j u r s (hb i _ hi) (hb j _ hj)
/-- if the draft cannot be entered, a pattern has its letters -/
theorem pd_dup {P : ah_Pt} {n : Nat} {dr : List Nat} (hc : ah_can P n dr = false) (h0 : 0 < dr.length) (h1 : pu_cn (fun i => (P i).isSome) 40 < 20) (h2 : n < 40) (hn : ∀ i, i < n → P i = none) (hP : ∀ i, n ≤ i → P i = none) : False := by
  unfold ah_can at hc
  rw [decide_eq_true (List.length_pos_iff.mp h0), decide_eq_false (by omega), decide_eq_false (by omega), ah_any_none (fun i w r hi hp => ?_)] at hc
  · cases hc
  · exfalso
    rcases Nat.lt_or_ge i n with g | g
    · rw [hn i g] at hp; cases hp
    · rw [hP i g] at hp; cases hp
/-! counting, once more -/
theorem pc_inj {p : Nat → Bool} {i j : Nat} (hi : p i = true) (hj : p j = true) (h : pu_cn p i = pu_cn p j) : i = j := by
  rcases Nat.lt_trichotomy i j with g | g | g
  · have := pu_cn_mono p (show i + 1 ≤ j by omega)
    rw [pu_cn_t hi] at this; omega
  · exact g
  · have := pu_cn_mono p (show j + 1 ≤ i by omega)
    rw [pu_cn_t hj] at this; omega
theorem pc_idx {p : Nat → Bool} {i n : Nat} (hi : i < n) (hp : p i = true) : pu_cn p i < pu_cn p n := by
  have := pu_cn_mono p (show i + 1 ≤ n by omega)
  rw [pu_cn_t hp] at this; omega
theorem pm_l_0 {P : ah_Pt} {i : Nat} (h : P i = none) : pm_l P i = 0 := by simp [pm_l, ah_w, h]
theorem pm_l_s {P : ah_Pt} {i : Nat} {w r : List Nat} (h : P i = some (w, r)) : pm_l P i = w.length := by rw [pm_l, ah_w_s h]
theorem pm_off {f : Nat → Nat} {n : Nat} (h : ∀ i, n ≤ i → f i = 0) : ∀ d, pm_sm f (n + d) = pm_sm f n
  | 0 => rfl
  | d + 1 => by
    show pm_sm f (n + d) + f (n + d) = _
    rw [pm_off h d, h (n + d) (by omega)]
    rfl
theorem pm_le {f : Nat → Nat} {b : Nat} (h : ∀ i, f i ≤ b) : ∀ n, pm_sm f n ≤ b * n
  | 0 => Nat.zero_le _
  | n + 1 => by
    have h1 := pm_le h n
    have h2 := h n
    show pm_sm f n + f n ≤ _
    rw [Nat.mul_add, Nat.mul_one]
    omega
theorem pm_l_le {P : ah_Pt} (hok : ah_Pok P) (i : Nat) : pm_l P i ≤ 8 := by
  cases hp : P i with
  | none => rw [pm_l_0 hp]; omega
  | some y =>
    obtain ⟨w, r⟩ := y
    rw [pm_l_s hp]; exact (hok i w r hp).1.1
theorem pb_fin {P : ah_Pt} {n : Nat} (hok : ah_Pok P) (hn : n ≤ 40) (hP : ∀ i, n ≤ i → P i = none) : pu_cb P 40 ≤ pm_sm (pm_l P) n ∧ pm_sm (pm_l P) n ≤ 320 := by
  have h1 := pb_le P 40
  have h2 := pm_off (f := pm_l P) (n := n) (fun i hi => pm_l_0 (hP i hi)) (40 - n)
  rw [show n + (40 - n) = 40 by omega] at h2
  have h3 := pm_le (pm_l_le hok) n
  omega
theorem pq_len {P : ah_Pt} {S : List Nat} {L : ah_Ch} (hok : ah_Pok P) (hL : ah_chn P S L) : ∀ t, t ≤ L.length → t ≤ ah_pe P L t
  | 0, _ => Nat.le_refl 0
  | t + 1, ht => by
    have hLt : L[t]? = some ((L[t]).1, (L[t]).2) := List.getElem?_eq_getElem (by omega)
    obtain ⟨h1, h2, h3, h4, h5⟩ := hL t _ _ hLt
    have h6 := (ah_w_ok hok h4).2.2
    have h7 := pq_len hok hL t (by omega)
    rw [ah_pe_s hLt]; omega
theorem pq_chs {P : ah_Pt} {S : List Nat} (hok : ah_Pok P) (ru : Nat) : (ah_chs P S ru).length ≤ S.length := by
  have hL := ah_chs_chn (S := S) hok ru
  have h1 := pq_len hok hL _ (Nat.le_refl _)
  have h2 := ah_pe_le hL _ (Nat.le_refl _)
  omega
theorem pq_tx {P : ah_Pt} {S : List Nat} (hok : ah_Pok P) (ru : Nat) : (ah_tx P S (ah_chs P S ru)).length ≤ 8 * S.length := by
  rw [← pt_e]; exact pt_le hok (ah_chs_chn (S := S) hok ru) (Nat.le_refl _)
/-! a letter more, a pattern's letters more -/
theorem pf_en {S w : List Nat} {y e : Nat} (he : e ≤ S.length) : ah_en (S ++ [y]) e w = ah_en S e w := by
  by_cases h : w.length ≤ e
  · unfold ah_en ah_at
    rw [List.drop_append_of_le_length (by omega), List.take_append_of_le_length (by rw [List.length_drop]; omega)]
  · unfold ah_en
    rw [decide_eq_false h, Bool.false_and, Bool.false_and]
theorem pf_oc1 {P : ah_Pt} {S : List Nat} {y : Nat} : ∀ e, e ≤ S.length → ah_oc P (S ++ [y]) e = ah_oc P S e
  | 0, _ => rfl
  | e + 1, he => by
    rw [ah_oc, ah_oc, pf_oc1 e (by omega)]
    congr 1
    exact pu_cn_congr (fun i _ => by
      cases hp : P i with
      | none => rw [ah_sat_n hp, ah_sat_n hp]
      | some z =>
        obtain ⟨w, r⟩ := z
        rw [ah_sat_s hp, ah_sat_s hp, pf_en (by omega)])
theorem pf_oc {P : ah_Pt} {S : List Nat} {y : Nat} : ah_oc P (S ++ [y]) (S ++ [y]).length = ah_oc P S S.length + ah_e1 P (S ++ [y]) := by
  have hl : (S ++ [y]).length = S.length + 1 := by simp
  unfold ah_e1
  rw [hl, ah_oc, pf_oc1 _ (Nat.le_refl _)]
theorem pf_e1 {P : ah_Pt} {S w r : List Nat} {j : Nat} (hj : j < 40) (hp : P j = some (w, r)) : 0 < ah_e1 P (S ++ w) := by
  refine pc_pos (i := j) hj ?_
  rw [ah_sat_s hp]
  unfold ah_en ah_at
  rw [List.length_append, decide_eq_true (by omega), Nat.add_sub_cancel, List.drop_append_of_le_length (Nat.le_refl _), List.drop_length, List.nil_append, List.take_length]
  simp
theorem pf_fs {P : ah_Pt} {S w r : List Nat} {j : Nat} (hj : j < 40) (hp : P j = some (w, r)) (hw : 0 < w.length) : 0 < ah_fs P S w w.length := by
  obtain ⟨k, hk⟩ : ∃ k, w.length = k + 1 := ⟨w.length - 1, by omega⟩
  have h1 := pf_e1 (S := S) hj hp
  rw [hk, ah_fs, ← hk, List.take_length]
  omega
theorem pf_let {T : List Nat} (h : ah_lt T) (k : Nat) : T.getD k 0 ≤ 26 := by
  rw [List.getD_eq_getElem?_getD]
  rcases Nat.lt_or_ge k T.length with g | g
  · rw [List.getElem?_eq_getElem g]
    exact (h _ (List.getElem_mem g)).2
  · rw [List.getElem?_eq_none g]
    exact Nat.zero_le _
theorem pf_tx {P : ah_Pt} {S : List Nat} (hok : ah_Pok P) (hS : ah_lt S) (k : Nat) : (ah_tx P S (ah_chs P S 0)).getD k 0 ≤ 26 := pf_let (ah_tx_lt hok hS (ah_chs_chn (S := S) hok 0)) k
theorem pf_end0 {P : ah_Pt} (hok : ah_Pok P) : pu_cn (ah_sat P (fun w => ah_en [] ([] : List Nat).length w)) 40 = 0 := pc_zero (fun i _ => by
  cases hp : P i with
  | none => rw [ah_sat_n hp]
  | some z =>
    obtain ⟨w, r⟩ := z
    have := List.length_pos_iff.mpr (hok i w r hp).2.2
    rw [ah_sat_s hp]
    unfold ah_en
    rw [decide_eq_false (by simp only [List.length_nil]; omega), Bool.false_and])
