/-! the next chosen occurrence from a place on; the chain is what it gives again and again -/
def md_np (nx : Nat → Option Nat) : Nat → Nat → Option (Nat × Nat)
  | _, 0 => none
  | fr, d + 1 => match nx fr with
    | some j => some (j, fr)
    | none => md_np nx (fr + 1) d
def md_ne (P : ah_Pt) (S : List Nat) (fr : Nat) : Nat → Nat → Option (Nat × Nat)
  | _, 0 => none
  | e, d + 1 => match ah_wi P S fr (e + 1) with
    | some j => some (j, e + 1 - (ah_w P j).length)
    | none => md_ne P S fr (e + 1) d
def md_nx (P : ah_Pt) (S : List Nat) (ru fr : Nat) : Option (Nat × Nat) :=
  if ru = 2 then md_ne P S fr fr (S.length - fr) else md_np (if ru = 0 then ah_n0 P S else ah_n1 P S) fr (S.length - fr)
def md_is (P : ah_Pt) (nt : Nat → Option (Nat × Nat)) : Nat → ah_Ch → Prop
  | fr, [] => nt fr = none
  | fr, (j, p) :: t => nt fr = some (j, p) ∧ md_is P nt (p + (ah_w P j).length) t
theorem md_np_chain {P : ah_Pt} {nx : Nat → Option Nat} {N : Nat} (hw : ∀ k j, nx k = some j → 0 < (ah_w P j).length) : ∀ d k, k + d = N → ∃ rest, (ah_cpl P nx N).2 = (ah_cpl P nx k).2 ++ rest ∧ md_is P (fun fr => md_np nx fr (N - fr)) (max k (ah_cpl P nx k).1) rest
  | 0, k, h => by
    rw [show N = k by omega]
    exact ⟨[], by rw [List.append_nil], by show md_np nx _ _ = none; rw [show k - max k (ah_cpl P nx k).1 = 0 by omega]; rfl⟩
  | d + 1, k, h => by
    obtain ⟨rest, h1, h2⟩ := md_np_chain (N := N) hw d (k + 1) (by omega)
    by_cases hf : k < (ah_cpl P nx k).1
    · rw [ah_cpl_o hf] at h1 h2
      rw [show max (k + 1) (ah_cpl P nx k).1 = max k (ah_cpl P nx k).1 by omega] at h2
      exact ⟨rest, h1, h2⟩
    · cases hn : nx k with
      | none =>
        have e : ah_cpl P nx (k + 1) = ah_cpl P nx k := by simp [ah_cpl, Nat.not_lt.mp hf, hn]
        rw [e] at h1 h2
        refine ⟨rest, h1, ?_⟩
        have e2 : md_np nx k (N - k) = md_np nx (k + 1) (N - (k + 1)) := by rw [show N - k = (N - (k + 1)) + 1 by omega, md_np, hn]
        rw [show max (k + 1) (ah_cpl P nx k).1 = k + 1 by omega] at h2
        rw [show max k (ah_cpl P nx k).1 = k by omega]
        cases rest with
        | nil => exact e2.trans h2
        | cons y t => obtain ⟨j, p⟩ := y; exact ⟨e2.trans h2.1, h2.2⟩
      | some j =>
        have e : ah_cpl P nx (k + 1) = (k + (ah_w P j).length, (ah_cpl P nx k).2 ++ [(j, k)]) := by simp [ah_cpl, Nat.not_lt.mp hf, hn]
        rw [e] at h1 h2
        have := hw k j hn
        rw [show max (k + 1) (k + (ah_w P j).length) = k + (ah_w P j).length by omega] at h2
        refine ⟨(j, k) :: rest, by rw [h1, List.append_assoc]; rfl, ?_⟩
        rw [show max k (ah_cpl P nx k).1 = k by omega]
        exact ⟨by show md_np nx k (N - k) = _; rw [show N - k = (N - (k + 1)) + 1 by omega, md_np, hn], h2⟩
theorem md_ne_chain {P : ah_Pt} {S : List Nat} {N : Nat} (hN : N = S.length) (hw : ∀ fr e j, ah_wi P S fr e = some j → (ah_w P j).length ≤ e) : ∀ d k, k + d = N → ∃ rest, (ah_cel P S N).2 = (ah_cel P S k).2 ++ rest ∧
    ((rest = [] ∧ md_ne P S (ah_cel P S k).1 k (N - k) = none) ∨ ∃ j p t, rest = (j, p) :: t ∧ md_ne P S (ah_cel P S k).1 k (N - k) = some (j, p) ∧ md_is P (fun fr => md_ne P S fr fr (N - fr)) (p + (ah_w P j).length) t)
  | 0, k, h => by
    rw [show N = k by omega]
    exact ⟨[], by rw [List.append_nil], Or.inl ⟨rfl, by rw [Nat.sub_self]; rfl⟩⟩
  | d + 1, k, h => by
    obtain ⟨rest, h1, h2⟩ := md_ne_chain hN hw d (k + 1) (by omega)
    cases hn : ah_wi P S (ah_cel P S k).1 (k + 1) with
    | none =>
      rw [ah_cel_n hn] at h1 h2
      have e2 : md_ne P S (ah_cel P S k).1 k (N - k) = md_ne P S (ah_cel P S k).1 (k + 1) (N - (k + 1)) := by rw [show N - k = (N - (k + 1)) + 1 by omega, md_ne, hn]
      rw [← e2] at h2
      exact ⟨rest, h1, h2⟩
    | some j =>
      have e : ah_cel P S (k + 1) = (k + 1, (ah_cel P S k).2 ++ [(j, k + 1 - (ah_w P j).length)]) := by simp [ah_cel, hn]
      have hl := hw _ _ _ hn
      rw [e] at h1 h2
      refine ⟨(j, k + 1 - (ah_w P j).length) :: rest, by rw [h1, List.append_assoc]; rfl, Or.inr ⟨j, _, rest, rfl, by rw [show N - k = (N - (k + 1)) + 1 by omega, md_ne, hn], ?_⟩⟩
      rw [show k + 1 - (ah_w P j).length + (ah_w P j).length = k + 1 by omega]
      rcases h2 with ⟨rfl, h3⟩ | ⟨j2, p2, t2, rfl, h3, h4⟩
      · exact h3
      · exact ⟨h3, h4⟩
theorem md_is_chs {P : ah_Pt} {S : List Nat} (hP : ah_Pok P) {ru : Nat} : md_is P (md_nx P S ru) 0 (ah_chs P S ru) := by
  have hlen : ∀ f i j, ah_sat P f j = true → i = j → 0 < (ah_w P j).length := fun f i j h _ => by
    obtain ⟨w, r, h1, -⟩ := ah_sat_t h
    rw [ah_w_s h1]
    exact List.length_pos_iff.mpr (hP _ _ _ h1).2.2
  by_cases h : ru = 2
  · subst h
    obtain ⟨rest, h1, h2⟩ := md_ne_chain (P := P) (S := S) rfl (fun fr e j hj => by
      obtain ⟨-, h3⟩ := ah_best_lt hj
      obtain ⟨w, r, h4, h5⟩ := ah_sat_t h3
      rw [ah_w_s h4]
      simp only [ah_en, Bool.and_eq_true, decide_eq_true_eq] at h5
      exact h5.2.1) S.length 0 (by omega)
    have h1 : (ah_cel P S S.length).2 = rest := h1
    rw [ah_chs, if_pos rfl, h1]
    have e : md_nx P S 2 = fun fr => md_ne P S fr fr (S.length - fr) := funext fun fr => by rw [md_nx, if_pos rfl]
    rw [e]
    rcases h2 with ⟨rfl, h3⟩ | ⟨j2, p2, t2, rfl, h3, h4⟩
    · exact h3
    · exact ⟨h3, h4⟩
  · have e : md_nx P S ru = fun fr => md_np (if ru = 0 then ah_n0 P S else ah_n1 P S) fr (S.length - fr) := funext fun fr => by rw [md_nx, if_neg h]
    obtain ⟨rest, h1, h2⟩ := md_np_chain (P := P) (nx := if ru = 0 then ah_n0 P S else ah_n1 P S) (N := S.length) (fun k j hj => by
      split at hj
      · exact hlen _ j j (ah_n0_ok P S k j hj).2 rfl
      · exact hlen _ j j (ah_n1_ok P S k j hj).2 rfl) S.length 0 (by omega)
    rw [ah_chs, if_neg h, e, h1]
    exact h2
theorem md_is_drop {P : ah_Pt} {nt : Nat → Option (Nat × Nat)} {L : ah_Ch} (h : md_is P nt 0 L) : ∀ t, t ≤ L.length → md_is P nt (ah_pe P L t) (L.drop t)
  | 0, _ => h
  | t + 1, ht => by
    have ih := md_is_drop h t (by omega)
    rw [List.drop_eq_getElem_cons (show t < L.length by omega)] at ih
    rw [ah_pe_s (show L[t]? = some ((L[t]).1, (L[t]).2) from List.getElem?_eq_getElem (by omega))]
    exact ih.2
theorem md_nx_at {P : ah_Pt} {S : List Nat} (hP : ah_Pok P) {ru t : Nat} (ht : t ≤ (ah_chs P S ru).length) : md_nx P S ru (ah_pe P (ah_chs P S ru) t) = (ah_chs P S ru)[t]? := by
  have h := md_is_drop (md_is_chs (S := S) hP (ru := ru)) t ht
  rcases Nat.lt_or_ge t (ah_chs P S ru).length with q | q
  · rw [List.drop_eq_getElem_cons q] at h
    rw [List.getElem?_eq_getElem q]
    exact h.1
  · rw [List.drop_of_length_le q] at h
    rw [List.getElem?_eq_none q]
    exact h
