/-! the reference's certain, endingPattern -/
theorem md_nx0_s {P : ah_Pt} {S : List Nat} {k j p : Nat} (hk : k < S.length) (h : md_nx P S 0 k = some (j, p)) (hp : p = k) : ah_n0 P S k = some j := by
  rw [md_nx, if_neg (by decide), if_pos rfl] at h
  cases e : ah_n0 P S k with
  | none =>
    rw [md_np_n hk e] at h
    exfalso
    have hg : ∀ d k2, md_np (ah_n0 P S) k2 d = some (j, p) → k2 ≤ p := by
      intro d
      induction d with
      | zero => intro k2 h2; cases h2
      | succ d ih =>
        intro k2 h2
        rw [md_np] at h2
        cases e2 : ah_n0 P S k2 with
        | none => rw [e2] at h2; have := ih _ h2; omega
        | some j2 => rw [e2] at h2; cases h2; exact Nat.le_refl _
    have := hg _ _ h
    omega
  | some j2 =>
    rw [md_np_s hk e] at h
    cases h
    rfl
theorem md_nx0_n {P : ah_Pt} {S : List Nat} {k : Nat} (hk : k < S.length) (h : ∀ j, md_nx P S 0 k ≠ some (j, k)) : ah_n0 P S k = none := by
  cases e : ah_n0 P S k with
  | none => rfl
  | some j => exact absurd (by rw [md_nx, if_neg (by decide), if_pos rfl, md_np_s hk e]) (h j)
theorem md_ct_jump {P : ah_Pt} {S : List Nat} {k fr c : Nat} (h : ah_ct P S (k + 1) = (fr, c, false)) : ∀ d, k + 1 + d ≤ fr → ah_ct P S (k + 1 + d) = (fr, c, false)
  | 0, _ => h
  | d + 1, hd => by
    have ih := md_ct_jump h d (by omega)
    exact ah_ct_o ih (show k + 1 + d < fr by omega)
theorem md_ct_j {P : ah_Pt} {S : List Nat} {k k0 a j : Nat} {w r : List Nat} (h : ah_ct P S k = (k0, a, false)) (h0 : k0 ≤ k) (hg : ah_gr P S k = false) (hn : ah_n0 P S k = some j) (hP : P j = some (w, r)) (hw : 0 < w.length) : ah_ct P S (k + w.length) = (k + w.length, a + r.length, false) := by
  have h1 := ah_ct_s h h0 hg hn
  rw [ah_w_s hP, ah_r_s hP] at h1
  have h2 := md_ct_jump h1 (w.length - 1) (by omega)
  rw [show k + 1 + (w.length - 1) = k + w.length by omega] at h2
  exact h2
theorem md_ct_open {P : ah_Pt} {S : List Nat} {k k0 a : Nat} (h : ah_ct P S k = (k0, a, false)) (h0 : k0 ≤ k) (hg : ah_gr P S k = true) (hk : k < S.length) : (ah_ct P S S.length).2.1 = a := by
  have h1 := ah_ct_stop (ah_ct_g h h0 hg) (S.length - (k + 1))
  rw [show k + 1 + (S.length - (k + 1)) = S.length by omega] at h1
  rw [h1]
theorem md_n0_in {P : ah_Pt} {S : List Nat} {k j : Nat} (hP : ah_Pok P) (h : ah_n0 P S k = some j) : ∃ w r, P j = some (w, r) ∧ 0 < w.length ∧ k + w.length ≤ S.length ∧ j < 40 := by
  obtain ⟨h1, h2⟩ := ah_n0_ok P S k j h
  obtain ⟨w, r, h3, h4⟩ := ah_sat_t h2
  have h5 := (hP _ _ _ h3).2.2
  exact ⟨w, r, h3, List.length_pos_iff.mpr h5, ah_at_in h4 h5, h1⟩
def md_ec (P : ah_Pt) (S : List Nat) (d : Nat) : Nat := pu_cn (fun j => (ah_es P S (8 - j)).isSome) d
def md_ek (P : ah_Pt) (S : List Nat) (d : Nat) (v : Int32) : Prop := ah_kt (fun j => (ah_es P S (8 - j)).isSome) d v = none
def md_et (S : List Nat) (d : Nat) (w : List Nat) : Bool := decide (w.length = 8 - d) && ah_en S S.length w
def md_fin (P : ah_Pt) (S : List Nat) (v fd : Int32) : Prop := (fd = -1 ∧ ah_ep P S v = none) ∨ ∃ i : Nat, fd = nI i ∧ i < 40 ∧ ah_ep P S v = some i
def md_eo (P : ah_Pt) (S : List Nat) (v : Int32) (d : Nat) (lf fd : Int32) : Prop := (fd = -1 ∧ ∃ y : Nat, lf = nI y ∧ y + md_ec P S d < 2 ^ 31 ∧ v = nI (y + md_ec P S d) ∧ md_ek P S d v) ∨ (lf < 0 ∧ md_fin P S v fd)
def md_ea (P : ah_Pt) (S : List Nat) (v : Int32) (d o y : Nat) : Prop := (y + md_ec P S d < 2 ^ 31 ∧ v = nI (y + md_ec P S d) ∧ md_ek P S d v ∧ ∀ i, i < o → ah_sat P (md_et S d) i = false) ∨ (y + md_ec P S (d + 1) < 2 ^ 31 ∧ v = nI (y + md_ec P S (d + 1)) ∧ md_ek P S (d + 1) v ∧ ∃ i, i < o ∧ ah_sat P (md_et S d) i = true)
def md_ei (P : ah_Pt) (S : List Nat) (v : Int32) (d o : Nat) (lf fd : Int32) : Prop := (fd = -1 ∧ ∃ y : Nat, lf = nI y ∧ md_ea P S v d o y) ∨ (lf < 0 ∧ md_fin P S v fd)
theorem md_eo_0 {P : ah_Pt} {S : List Nat} {v : Int32} : md_eo P S v 0 v (-1) := by
  by_cases h : v < 0
  · refine Or.inr ⟨h, Or.inl ⟨rfl, ?_⟩⟩
    rw [ah_ep, md_kt_none (by decide) (Or.inl h)]
    rfl
  · obtain ⟨y, hy, e⟩ := nI_of h
    exact Or.inl ⟨rfl, y, e, hy, e, rfl⟩
theorem md_eo_e8 {P : ah_Pt} {S : List Nat} {v lf fd : Int32} {d : Nat} (h : md_eo P S v d lf fd) (hd : d = 8) : md_fin P S v fd := by
  subst hd
  rcases h with ⟨h1, y, -, -, -, h2⟩ | ⟨-, h⟩
  · refine Or.inl ⟨h1, ?_⟩
    have h2 : ah_kt (fun j => (ah_es P S (8 - j)).isSome) 8 v = none := h2
    rw [ah_ep, h2]
    rfl
  · exact h
theorem md_eo_lt {P : ah_Pt} {S : List Nat} {v lf fd : Int32} {d : Nat} (h : md_eo P S v d lf fd) (hl : lf < 0) : md_fin P S v fd := by
  rcases h with ⟨h1, y, h2, h3, -⟩ | ⟨-, h⟩
  · rw [h2] at hl; exact absurd hl (nI_pos (by omega))
  · exact h
theorem md_ei_0 {P : ah_Pt} {S : List Nat} {v lf fd : Int32} {d : Nat} (h : md_eo P S v d lf fd) : md_ei P S v d 0 lf fd := by
  rcases h with ⟨h1, y, h2, h3, h4, h5⟩ | h
  · exact Or.inl ⟨h1, y, h2, Or.inl ⟨h3, h4, h5, fun i hi => absurd hi (Nat.not_lt_zero i)⟩⟩
  · exact Or.inr h
theorem md_ea_lt {P : ah_Pt} {S : List Nat} {v : Int32} {d o y : Nat} (h : md_ea P S v d o y) : y < 2 ^ 31 := by
  rcases h with ⟨h, -⟩ | ⟨h, -⟩ <;> omega
theorem md_ei_lt {P : ah_Pt} {S : List Nat} {v lf fd : Int32} {d o : Nat} (h : md_ei P S v d o lf fd) (hl : lf < 0) : md_eo P S v (d + 1) lf fd := by
  rcases h with ⟨h1, y, h2, h3⟩ | h
  · rw [h2] at hl; exact absurd hl (nI_pos (md_ea_lt h3))
  · exact Or.inr h
theorem md_es_n {P : ah_Pt} {S : List Nat} {d n : Nat} (hn : n ≤ 40) (hPn : ∀ i, n ≤ i → P i = none) (h : ∀ i, i < n → ah_sat P (md_et S d) i = false) : ah_es P S (8 - d) = none := by
  rw [ah_es]
  exact ah_fst_n.mpr (fun i hi => by
    rcases Nat.lt_or_ge i n with q | q
    · exact h i q
    · exact md_sat_n (by rw [hPn i q]; rfl))
theorem md_ei_n {P : ah_Pt} {S : List Nat} {v lf fd : Int32} {d n : Nat} (hn : n ≤ 40) (hPn : ∀ i, n ≤ i → P i = none) (h : md_ei P S v d n lf fd) : md_eo P S v (d + 1) lf fd := by
  rcases h with ⟨h1, y, h2, h3⟩ | h
  · refine Or.inl ⟨h1, y, h2, ?_⟩
    rcases h3 with ⟨h3, h4, h5, h6⟩ | ⟨h3, h4, h5, -⟩
    · have e : (fun j => (ah_es P S (8 - j)).isSome) d = false := by show (ah_es P S (8 - d)).isSome = false; rw [md_es_n hn hPn h6]; rfl
      have e2 : md_ec P S (d + 1) = md_ec P S d := pu_cn_f e
      rw [e2]
      exact ⟨h3, h4, ah_kt_f h5 e⟩
    · exact ⟨h3, h4, h5⟩
  · exact Or.inr h
theorem md_ei_nn {P : ah_Pt} {S : List Nat} {v lf fd : Int32} {d o : Nat} (h : md_ei P S v d o lf fd) (hl : ¬ lf < 0) : ∃ y : Nat, lf = nI y ∧ fd = -1 ∧ y < 2 ^ 31 ∧ md_ea P S v d o y := by
  rcases h with ⟨h1, y, h2, h3⟩ | ⟨h, -⟩
  · exact ⟨y, h2, h1, md_ea_lt h3, h3⟩
  · exact absurd h hl
theorem md_ei_x {P : ah_Pt} {S : List Nat} {v : Int32} {d o y : Nat} (h : md_ea P S v d o y) (hs : ah_sat P (md_et S d) o = false) : md_ei P S v d (o + 1) (nI y) (-1) := by
  refine Or.inl ⟨rfl, y, rfl, ?_⟩
  rcases h with ⟨h1, h2, h3, h4⟩ | ⟨h1, h2, h3, i, h4, h5⟩
  · exact Or.inl ⟨h1, h2, h3, fun i hi => by
      by_cases e : i = o
      · rw [e]; exact hs
      · exact h4 i (by omega)⟩
  · exact Or.inr ⟨h1, h2, h3, i, by omega, h5⟩
theorem md_et_u {P : ah_Pt} {S : List Nat} {d i j : Nat} (hd : ah_Pdis P) (h : ah_sat P (md_et S d) i = true) (h2 : ah_sat P (md_et S d) j = true) : i = j := by
  obtain ⟨w, r, h3, h4⟩ := ah_sat_t h
  obtain ⟨w2, r2, h5, h6⟩ := ah_sat_t h2
  simp only [md_et, ah_en, Bool.and_eq_true, decide_eq_true_eq] at h4 h6
  obtain ⟨a1, a2, a3⟩ := h4
  obtain ⟨b1, b2, b3⟩ := h6
  rw [a1] at a3
  rw [b1] at b3
  have e := md_at_w a3 b3 (by omega)
  subst e
  exact hd i j _ _ _ h3 h5
theorem md_ei_t {P : ah_Pt} {S : List Nat} {v : Int32} {d o y : Nat} (hd : ah_Pdis P) (h : md_ea P S v d o y) (hs : ah_sat P (md_et S d) o = true) : y + md_ec P S d < 2 ^ 31 ∧ v = nI (y + md_ec P S d) ∧ md_ek P S d v ∧ ∀ i, i < o → ah_sat P (md_et S d) i = false := by
  rcases h with h | ⟨-, -, -, i, h4, h5⟩
  · exact h
  · have := md_et_u hd h5 hs; omega
theorem md_es_s {P : ah_Pt} {S : List Nat} {d o : Nat} (ho : o < 40) (hs : ah_sat P (md_et S d) o = true) (h : ∀ i, i < o → ah_sat P (md_et S d) i = false) : ah_es P S (8 - d) = some o := ah_fst_s.mpr ⟨ho, hs, h⟩
theorem md_ei_p {P : ah_Pt} {S : List Nat} {v : Int32} {d o y : Nat} (hd : ah_Pdis P) (ho : o < 40) (h : md_ea P S v d o y) (hs : ah_sat P (md_et S d) o = true) (hy : 0 < y) : md_ei P S v d (o + 1) (nI y - nI 1) (-1) := by
  obtain ⟨h1, h2, h3, h4⟩ := md_ei_t hd h hs
  obtain ⟨z, rfl⟩ : ∃ z, y = z + 1 := ⟨y - 1, by omega⟩
  have e : (fun j => (ah_es P S (8 - j)).isSome) d = true := by show (ah_es P S (8 - d)).isSome = true; rw [md_es_s ho hs h4]; rfl
  have e2 : md_ec P S (d + 1) = md_ec P S d + 1 := pu_cn_t e
  refine Or.inl ⟨rfl, z, md_pr z, Or.inr ⟨by omega, by rw [h2, e2, show z + 1 + md_ec P S d = z + (md_ec P S d + 1) by omega], ah_kt_s h3 (fun q => ?_), o, by omega, hs⟩⟩
  rw [h2] at q
  have q : nI (md_ec P S d) = nI (z + 1 + md_ec P S d) := q
  have := (nI_eq (by omega) h1).mp q
  omega
theorem md_ei_z {P : ah_Pt} {S : List Nat} {v : Int32} {d o y : Nat} (hd : ah_Pdis P) (ho : o < 40) (hd8 : d < 8) (h : md_ea P S v d o y) (hs : ah_sat P (md_et S d) o = true) (hy : y = 0) : md_ei P S v d (o + 1) (nI y - nI 1) (nI o) := by
  obtain ⟨h1, h2, h3, h4⟩ := md_ei_t hd h hs
  subst hy
  have h5 := md_es_s ho hs h4
  refine Or.inr ⟨by decide, Or.inr ⟨o, rfl, ho, ?_⟩⟩
  have e : (fun j => (ah_es P S (8 - j)).isSome) d = true := by show (ah_es P S (8 - d)).isSome = true; rw [h5]; rfl
  have hk : ah_kt (fun j => (ah_es P S (8 - j)).isSome) 8 v = some d := ah_kt_hit hd8 e (by rw [h2, Nat.zero_add]; rfl) h3
  rw [ah_ep, hk]
  exact h5
theorem md_et_f {P : ah_Pt} {S : List Nat} {d o c : Nat} (h : ∀ w r, P o = some (w, r) → c = w.length) (hc : c ≠ 8 - d) : ah_sat P (md_et S d) o = false := by
  cases hp : P o with
  | none => exact md_sat_n (by rw [hp]; rfl)
  | some q =>
    obtain ⟨w, r⟩ := q
    have := h w r hp
    rw [md_sat_s hp, md_et, decide_eq_false (by omega), Bool.false_and]
theorem md_et_g {P : ah_Pt} {S : List Nat} {d o c : Nat} (h : ∀ w r, P o = some (w, r) → c = w.length) (hc : c = 8 - d) (hg : ¬ 8 - d ≤ S.length) : ah_sat P (md_et S d) o = false := by
  cases hp : P o with
  | none => exact md_sat_n (by rw [hp]; rfl)
  | some q =>
    obtain ⟨w, r⟩ := q
    have := h w r hp
    rw [md_sat_s hp, md_et, ah_en, decide_eq_false (show ¬ w.length ≤ S.length by omega), Bool.false_and, Bool.and_false]
theorem md_et_t {P : ah_Pt} {S : List Nat} {d o c : Nat} (h : ∀ w r, P o = some (w, r) → c = w.length) (hc : c = 8 - d) (hg : 8 - d ≤ S.length) : ah_sat P (fun u => ah_at S (S.length - (8 - d)) u) o = ah_sat P (md_et S d) o := by
  cases hp : P o with
  | none => rw [md_sat_n (by rw [hp]; rfl), md_sat_n (by rw [hp]; rfl)]
  | some q =>
    obtain ⟨w, r⟩ := q
    have := h w r hp
    rw [md_sat_s hp, md_sat_s hp, md_et, ah_en, decide_eq_true (show w.length = 8 - d by omega), decide_eq_true (show w.length ≤ S.length by omega), Bool.true_and, Bool.true_and, show w.length = 8 - d by omega]
theorem md_fin_s {P : ah_Pt} {S : List Nat} {v fd : Int32} (h : md_fin P S v fd) (q : fd ≠ -1) : ∃ i : Nat, fd = nI i ∧ ah_ep P S v = some i := by
  rcases h with ⟨h, -⟩ | ⟨i, h1, -, h2⟩
  · exact absurd h q
  · exact ⟨i, h1, h2⟩
theorem md_fin_n {P : ah_Pt} {S : List Nat} {v fd : Int32} (h : md_fin P S v fd) (q : fd = -1) : ah_ep P S v = none := by
  rcases h with ⟨-, h⟩ | ⟨i, h1, h2, -⟩
  · exact h
  · exact absurd (h1.symm.trans q) (md_nm1 (by omega))
theorem md_np_r {nx : Nat → Option Nat} {j p : Nat} : ∀ d k, md_np nx k d = some (j, p) → p < k + d
  | 0, k, h => by cases h
  | d + 1, k, h => by
    rw [md_np] at h
    cases e2 : nx k with
    | none => rw [e2] at h; have := md_np_r d (k + 1) h; omega
    | some j2 => rw [e2] at h; cases h; omega
theorem md_nx_r {P : ah_Pt} {S : List Nat} {k j p : Nat} (h : md_nx P S 0 k = some (j, p)) : p < k + (S.length - k) := by
  rw [md_nx, if_neg (by decide), if_pos rfl] at h
  exact md_np_r _ _ h
set_option maxHeartbeats 4000000 in
set_option maxRecDepth 100000 in
/-- certain -/
theorem m_certain (l : Launch) (A : Nat → Prop) (D : ah_G) (F : ah_F) {mo n : Nat} {P : ah_Pt} {dr S : List Nat} {td th : Int32} (hC : md_C D F mo P n dr S td th)  : Met l yX7_certain (Cond.code yX7_certain cX7_certain 4 (some .int) :: ah_T) { frames := 3, cells := 0, slots := 0, locals := 74 } (va_Pc [.ref mo] (ah_B A D F)) (ah_Qi A D (fun (r : Int32) F1 => md_An D F1 mo (0, nI (ah_ct P S S.length).2.1, (P, n, dr, S, td)) r)) 0 0 A := by
  refine ah_met (own := "AhoarchModel") (by decide) rfl (Nat.le_of_ble_eq_true rfl) ?_
  intro p e s m below meth c ls E hr hini hl hP hS Q hQ
  have hx := E.1
  have hb := E.2.1
  have hl : lv_has ls 4 [(0, .ref mo)] := hl
  obtain ⟨dA, tA, lA, eA, nlA, neA, sA, ip, il, ln, df, tf, lf, ef, nlf, nef, sf, hmo, hdA, htA, hlA, heA, hnlA, hneA, hsA, hne1, hne2, hne3, hne4, hL⟩ := id hC
  obtain ⟨hn40, hPn, hdok, hSl, hS200, hPok, hdis, hp20, hln, hlP, hdd, hss⟩ := id hL
  have hdl := hdok.1
  refine lv_aload_n hx hb dX7_certain_0 rfl (lv_at hl 0 rfl) ?_
  refine lv_iconst (v := (nI 0)) hx hb dX7_certain_1 (by decide) ?_
  refine pf_Mod_32 E hP hS hmo (Nat.le_of_ble_eq_true rfl) dX7_certain_2 (fun H locs hP hS => ?_)
  obtain ⟨F1, eF1⟩ : ∃ Fz : ah_F, Fz = ah_up F mo (.inr (7, [.int (nI 0), .ref dA, .int (nI dr.length), .int (nI n), .ref tA, .ref lA, .ref eA, .ref nlA, .ref neA, .ref sA, .int (nI S.length), .int td, .int ip, .int il])) := ⟨_, rfl⟩
  have hP : ah_K A D F1 H := by rw [eF1]; exact hP
  have hF2 : F1 mo = some (.inr (7, [.int (nI 0), .ref dA, .int (nI dr.length), .int (nI n), .ref tA, .ref lA, .ref eA, .ref nlA, .ref neA, .ref sA, .int (nI S.length), .int td, .int ip, .int il])) := by rw [eF1]; exact ah_up_s _ _ _
  have hF3 : F1 dA = some (ah_ai D 8 df) := by rw [eF1]; exact ah_keep hmo hdA rfl
  have hF4 : F1 tA = some (ah_az D 40 tf) := by rw [eF1]; exact ah_keep hmo htA rfl
  have hF5 : F1 lA = some (ah_ai D 40 lf) := by rw [eF1]; exact ah_keep hmo hlA rfl
  have hF6 : F1 eA = some (ah_ai D 320 ef) := by rw [eF1]; exact ah_keep hmo heA rfl
  have hF7 : F1 nlA = some (ah_ai D 40 nlf) := by rw [eF1]; exact ah_keep hmo hnlA rfl
  have hF8 : F1 neA = some (ah_ai D 320 nef) := by rw [eF1]; exact ah_keep hmo hneA rfl
  have hF9 : F1 sA = some (ah_ai D 200 sf) := by rw [eF1]; exact ah_keep hmo hsA rfl
  refine lv_iconst (v := (nI 0)) hx hb dX7_certain_5 (by decide) ?_
  refine lv_istore_n (lv' := [(1, .int (nI 0)), (0, .ref mo)]) hx hb dX7_certain_6 rfl hl (by decide) rfl (fun ls hl => ?_)
  refine lv_iconst (v := (nI 0)) hx hb dX7_certain_7 (by decide) ?_
  refine lv_istore_n (lv' := [(2, .int (nI 0)), (1, .int (nI 0)), (0, .ref mo)]) hx hb dX7_certain_8 rfl hl (by decide) rfl (fun ls hl => ?_)
  have L9 : ∀ (fuel : Nat), ∀ (Fv : ah_F) (k a : Nat) (ip1 il1 : Int32), S.length - k < fuel → k ≤ S.length → (∃ k0, k0 ≤ k ∧ ah_ct P S k = (k0, a, false)) → Fv mo = some (.inr (7, [.int (nI 0), .ref dA, .int (nI dr.length), .int (nI n), .ref tA, .ref lA, .ref eA, .ref nlA, .ref neA, .ref sA, .int (nI S.length), .int td, .int ip1, .int il1])) → Fv dA = some (ah_ai D 8 df) → Fv tA = some (ah_az D 40 tf) → Fv lA = some (ah_ai D 40 lf) → Fv eA = some (ah_ai D 320 ef) → Fv nlA = some (ah_ai D 40 nlf) → Fv neA = some (ah_ai D 320 nef) → Fv sA = some (ah_ai D 200 sf) → ∀ (H : Heap) (locs : List Loc), ah_K A D Fv H → va_S A s.heap H locs → ∀ (ls : Array Slot), lv_has ls 4 [(0, .ref mo), (1, .int (nI a)), (2, .int (nI k))] → W p l e { frames := 3, cells := 0, slots := 0, locals := 74 } s m [.ref mo].toArray below meth c H locs 0 0 Q (F0 m 9 ls []) := by
    intro fuel
    induction fuel with
    | zero =>
      intro Fv k a ip1 il1 hm
      exact absurd hm (Nat.not_lt_zero _)
    | succ fuel ih9 =>
      intro Fv k a ip1 il1 hm hk hct hk10 hk11 hk12 hk13 hk14 hk15 hk16 hk17 H locs hP hS ls hl
      obtain ⟨k0, hk0, hct0⟩ := hct
      refine lv_iload_n hx hb dX7_certain_9 rfl (lv_at hl 2 rfl) ?_
      refine lv_aload_n hx hb dX7_certain_10 rfl (lv_at hl 0 rfl) ?_
      refine gf_Mod_67 E hP hk10 rfl dX7_certain_11 ?_
      refine ah_icmp_ge (tgt := 86) hx hb (by omega) (by omega) dX7_certain_14 (by decide) (fun hc14 => ?_) (fun hc14 => ?_)
      · skip
        have hfinal : (ah_ct P S S.length).2.1 = a := by rw [← show k = S.length by omega, hct0]
        refine lv_iload_n hx hb dX7_certain_86 rfl (lv_at hl 1 rfl) ?_
        rw [hQ]
        exact ah_iret E hr hP hS (md_An_i (k := 0) (v := _) (rfl) ⟨dA, tA, lA, eA, nlA, neA, sA, _, _, ln, _, _, _, _, _, _, _, hk10, hk11, hk12, hk13, hk14, hk15, hk16, hk17, hne1, hne2, hne3, hne4, hL⟩ (fun _ => by rw [hfinal])) (Nat.le_of_ble_eq_true rfl) (Nat.le_of_ble_eq_true rfl) dX7_certain_87
      · skip
        refine lv_aload_n hx hb dX7_certain_17 rfl (lv_at hl 0 rfl) ?_
        refine lv_iload_n hx hb dX7_certain_18 rfl (lv_at hl 2 rfl) ?_
        refine ah_calli (ah_runV E hP hS (As := [.int (nI k)]) (rest := []) (b := mo) (m_isOpen l A D _ hk10 hk11 hk12 hk13 hk14 hk15 hk16 hk17 hL (pl := k) hk) lk_Mod_121 li_Mod_121 hk10 rfl ⟨rfl, rfl, (Nat.le_of_ble_eq_true rfl), (Nat.le_of_ble_eq_true rfl)⟩ rfl hl.1 rfl (Nat.le_of_ble_eq_true rfl) dX7_certain_19 ⟨(Nat.le_of_ble_eq_true rfl), (Nat.le_of_ble_eq_true rfl)⟩) hS (fun r F18 H locs hq hP hS => ?_)
        obtain ⟨rfl, rfl⟩ := hq
        refine ah_ifb_ne (tgt := 86) hx hb dX7_certain_22 (by decide) (fun hc22 => ?_) (fun hc22 => ?_)
        · skip
          have hfinal := md_ct_open hct0 hk0 hc22 (by omega)
          refine lv_iload_n hx hb dX7_certain_86 rfl (lv_at hl 1 rfl) ?_
          rw [hQ]
          exact ah_iret E hr hP hS (md_An_i (k := 0) (v := _) (rfl) ⟨dA, tA, lA, eA, nlA, neA, sA, _, _, ln, _, _, _, _, _, _, _, hk10, hk11, hk12, hk13, hk14, hk15, hk16, hk17, hne1, hne2, hne3, hne4, hL⟩ (fun _ => by rw [hfinal])) (Nat.le_of_ble_eq_true rfl) (Nat.le_of_ble_eq_true rfl) dX7_certain_87
        · skip
          refine lv_aload_n hx hb dX7_certain_25 rfl (lv_at hl 0 rfl) ?_
          refine lv_iconst (v := (nI 0)) hx hb dX7_certain_26 (by decide) ?_
          refine lv_iload_n hx hb dX7_certain_27 rfl (lv_at hl 2 rfl) ?_
          refine ah_calli (ah_runV E hP hS (As := [.int (nI 0), .int (nI k)]) (rest := []) (b := mo) (m_finds l A D _ hk10 hk11 hk12 hk13 hk14 hk15 hk16 hk17 hL (ru := 0) (fr := k) (by omega) hk) lk_Mod_99 li_Mod_99 hk10 rfl ⟨rfl, rfl, (Nat.le_of_ble_eq_true rfl), (Nat.le_of_ble_eq_true rfl)⟩ rfl hl.1 rfl (Nat.le_of_ble_eq_true rfl) dX7_certain_28 ⟨(Nat.le_of_ble_eq_true rfl), (Nat.le_of_ble_eq_true rfl)⟩) hS (fun r F19 H locs hfd3 hP hS => ?_)
          obtain ⟨ip3, il3, hm3, hcg3, hro3, hjo3⟩ := hfd3
          subst hro3
          have hG20 : F19 dA = some (ah_ai D 8 df) := (hcg3 dA (ah_nin1 (ah_ne hk11 hk10 rfl))).trans hk11
          have hG21 : F19 tA = some (ah_az D 40 tf) := (hcg3 tA (ah_nin1 (ah_ne hk12 hk10 rfl))).trans hk12
          have hG22 : F19 lA = some (ah_ai D 40 lf) := (hcg3 lA (ah_nin1 (ah_ne hk13 hk10 rfl))).trans hk13
          have hG23 : F19 eA = some (ah_ai D 320 ef) := (hcg3 eA (ah_nin1 (ah_ne hk14 hk10 rfl))).trans hk14
          have hG24 : F19 nlA = some (ah_ai D 40 nlf) := (hcg3 nlA (ah_nin1 (ah_ne hk15 hk10 rfl))).trans hk15
          have hG25 : F19 neA = some (ah_ai D 320 nef) := (hcg3 neA (ah_nin1 (ah_ne hk16 hk10 rfl))).trans hk16
          have hG26 : F19 sA = some (ah_ai D 200 sf) := (hcg3 sA (ah_nin1 (ah_ne hk17 hk10 rfl))).trans hk17
          refine ah_ifb_eq (tgt := 46) hx hb dX7_certain_31 (by decide) (fun hc31 => ?_) (fun hc31 => ?_)
          · skip
            have hnn := md_none hc31
            have hn0 : ah_n0 P S k = none := md_nx0_n (by omega) (fun j q => by rw [hnn] at q; cases q)
            refine lv_iconst (v := (bI_ false)) hx hb dX7_certain_46 (by decide) ?_
            refine lv_istore_n (lv' := [(3, .int (bI_ false)), (0, .ref mo), (1, .int (nI a)), (2, .int (nI k))]) hx hb dX7_certain_47 rfl hl (by decide) rfl (fun ls hl => ?_)
            refine lv_iload_n hx hb dX7_certain_48 rfl (lv_at hl 2 rfl) ?_
            refine lv_iload_n hx hb dX7_certain_49 rfl (lv_at hl 0 rfl) ?_
            refine ah_ifb_eq (tgt := 65) hx hb dX7_certain_50 (by decide) (fun hc50 => ?_) (fun hc50 => ?_)
            · skip
              refine lv_iconst (v := (nI 1)) hx hb dX7_certain_65 (by decide) ?_
              refine ah_iadd hx hb dX7_certain_66 ?_
              refine lv_istore_n (lv' := [(1, .int (nI (a + 1))), (3, .int (bI_ false)), (0, .ref mo), (2, .int (nI k))]) hx hb dX7_certain_67 rfl hl (by decide) rfl (fun ls hl => ?_)
              refine lv_iload_n hx hb dX7_certain_68 rfl (lv_at hl 1 rfl) ?_
              refine ah_ifb_eq (tgt := 79) hx hb dX7_certain_69 (by decide) (fun hc69 => ?_) (fun hc69 => ?_)
              · skip
                refine lv_iload_n hx hb dX7_certain_79 rfl (lv_at hl 3 rfl) ?_
                refine lv_iconst (v := (nI 1)) hx hb dX7_certain_80 (by decide) ?_
                refine ah_iadd hx hb dX7_certain_81 ?_
                refine lv_istore_n (lv' := [(2, .int (nI (k + 1))), (1, .int (nI (a + 1))), (3, .int (bI_ false)), (0, .ref mo)]) hx hb dX7_certain_82 rfl hl (by decide) rfl (fun ls hl => ?_)
                refine lv_goto (tgt := 9) hx hb dX7_certain_83 (by decide) ?_
                exact ih9 _ (k + 1) (a + 1) _ _ (by omega) (by omega) ⟨k0, by omega, ah_ct_n hct0 hk0 hc22 hn0⟩ hm3 hG20 hG21 hG22 hG23 hG24 hG25 hG26 _ _ hP hS ls (lv_sub hl [3, 1, 0] rfl)
              · skip
                exact absurd hc69 (by decide)
            · skip
              exact absurd hc50 (by decide)
          · skip
            obtain ⟨⟨j, p⟩, hjp⟩ := Option.isSome_iff_exists.mp hc31
            obtain ⟨hjp1, hjp2⟩ := hjo3 j p hjp
            have hpr9 := md_nx_r hjp
            rw [hjp1] at hm3
            rw [hjp2] at hm3
            refine lv_aload_n hx hb dX7_certain_34 rfl (lv_at hl 0 rfl) ?_
            refine gf_Mod_93 E hP hm3 rfl dX7_certain_35 ?_
            refine lv_iload_n hx hb dX7_certain_38 rfl (lv_at hl 2 rfl) ?_
            refine ah_icmp_ne (tgt := 46) hx hb (by omega) (by omega) dX7_certain_39 (by decide) (fun hc39 => ?_) (fun hc39 => ?_)
            · skip
              have hn0 : ah_n0 P S k = none := md_nx0_n (by omega) (fun j2 q => by rw [hjp] at q; cases q; omega)
              refine lv_iconst (v := (bI_ false)) hx hb dX7_certain_46 (by decide) ?_
              refine lv_istore_n (lv' := [(3, .int (bI_ false)), (0, .ref mo), (1, .int (nI a)), (2, .int (nI k))]) hx hb dX7_certain_47 rfl hl (by decide) rfl (fun ls hl => ?_)
              refine lv_iload_n hx hb dX7_certain_48 rfl (lv_at hl 2 rfl) ?_
              refine lv_iload_n hx hb dX7_certain_49 rfl (lv_at hl 0 rfl) ?_
              refine ah_ifb_eq (tgt := 65) hx hb dX7_certain_50 (by decide) (fun hc50 => ?_) (fun hc50 => ?_)
              · skip
                refine lv_iconst (v := (nI 1)) hx hb dX7_certain_65 (by decide) ?_
                refine ah_iadd hx hb dX7_certain_66 ?_
                refine lv_istore_n (lv' := [(1, .int (nI (a + 1))), (3, .int (bI_ false)), (0, .ref mo), (2, .int (nI k))]) hx hb dX7_certain_67 rfl hl (by decide) rfl (fun ls hl => ?_)
                refine lv_iload_n hx hb dX7_certain_68 rfl (lv_at hl 1 rfl) ?_
                refine ah_ifb_eq (tgt := 79) hx hb dX7_certain_69 (by decide) (fun hc69 => ?_) (fun hc69 => ?_)
                · skip
                  refine lv_iload_n hx hb dX7_certain_79 rfl (lv_at hl 3 rfl) ?_
                  refine lv_iconst (v := (nI 1)) hx hb dX7_certain_80 (by decide) ?_
                  refine ah_iadd hx hb dX7_certain_81 ?_
                  refine lv_istore_n (lv' := [(2, .int (nI (k + 1))), (1, .int (nI (a + 1))), (3, .int (bI_ false)), (0, .ref mo)]) hx hb dX7_certain_82 rfl hl (by decide) rfl (fun ls hl => ?_)
                  refine lv_goto (tgt := 9) hx hb dX7_certain_83 (by decide) ?_
                  exact ih9 _ (k + 1) (a + 1) _ _ (by omega) (by omega) ⟨k0, by omega, ah_ct_n hct0 hk0 hc22 hn0⟩ hm3 hG20 hG21 hG22 hG23 hG24 hG25 hG26 _ _ hP hS ls (lv_sub hl [3, 1, 0] rfl)
                · skip
                  exact absurd hc69 (by decide)
              · skip
                exact absurd hc50 (by decide)
            · skip
              have hpk : p = k := by omega
              have hn0 := md_nx0_s (by omega) hjp hpk
              obtain ⟨w, r0, hPj, hwp, hkw, hj40⟩ := md_n0_in hPok hn0
              have hok9 := (hPok j w r0 hPj).1.1
              obtain ⟨hlw, hew, hnl, hnew⟩ := hlP j w r0 hPj
              have hjn := md_lt (i := j) hPn (by rw [hPj]; rfl)
              obtain ⟨hl8, hlf, htf⟩ := hln j hjn
              refine lv_iconst (v := (bI_ true)) hx hb dX7_certain_42 (by decide) ?_
              refine lv_goto (tgt := 47) hx hb dX7_certain_43 (by decide) ?_
              refine lv_istore_n (lv' := [(3, .int (bI_ true)), (0, .ref mo), (1, .int (nI a)), (2, .int (nI k))]) hx hb dX7_certain_47 rfl hl (by decide) rfl (fun ls hl => ?_)
              refine lv_iload_n hx hb dX7_certain_48 rfl (lv_at hl 2 rfl) ?_
              refine lv_iload_n hx hb dX7_certain_49 rfl (lv_at hl 0 rfl) ?_
              refine ah_ifb_eq (tgt := 65) hx hb dX7_certain_50 (by decide) (fun hc50 => ?_) (fun hc50 => ?_)
              · skip
                exact absurd hc50 (by decide)
              · skip
                refine lv_aload_n hx hb dX7_certain_53 rfl (lv_at hl 1 rfl) ?_
                refine gf_Mod_23 E hP hm3 rfl dX7_certain_54 ?_
                refine lv_aload_n hx hb dX7_certain_57 rfl (lv_at hl 1 rfl) ?_
                refine gf_Mod_90 E hP hm3 rfl dX7_certain_58 ?_
                refine ah_iald E hP hG24 (by omega) (by omega) dX7_certain_61 ?_
                rw [hnl]
                refine lv_goto (tgt := 66) hx hb dX7_certain_62 (by decide) ?_
                refine ah_iadd hx hb dX7_certain_66 ?_
                refine lv_istore_n (lv' := [(1, .int (nI (a + r0.length))), (3, .int (bI_ true)), (0, .ref mo), (2, .int (nI k))]) hx hb dX7_certain_67 rfl hl (by decide) rfl (fun ls hl => ?_)
                refine lv_iload_n hx hb dX7_certain_68 rfl (lv_at hl 1 rfl) ?_
                refine ah_ifb_eq (tgt := 79) hx hb dX7_certain_69 (by decide) (fun hc69 => ?_) (fun hc69 => ?_)
                · skip
                  exact absurd hc69 (by decide)
                · skip
                  refine lv_aload_n hx hb dX7_certain_72 rfl (lv_at hl 2 rfl) ?_
                  refine ah_calli (ah_runV E hP hS (As := []) (rest := []) (b := mo) (m_itsEnd l A D _ hm3 hG20 hG21 hG22 hG23 hG24 hG25 hG26 hL hPj (by omega)) lk_Mod_102 li_Mod_102 hm3 rfl ⟨rfl, rfl, (Nat.le_of_ble_eq_true rfl), (Nat.le_of_ble_eq_true rfl)⟩ rfl hl.1 rfl (Nat.le_of_ble_eq_true rfl) dX7_certain_73 ⟨(Nat.le_of_ble_eq_true rfl), (Nat.le_of_ble_eq_true rfl)⟩) hS (fun r F28 H locs hq hP hS => ?_)
                  obtain ⟨rfl, rfl⟩ := hq
                  refine lv_goto (tgt := 82) hx hb dX7_certain_76 (by decide) ?_
                  refine lv_istore_n (lv' := [(2, .int (nI (p + w.length))), (1, .int (nI (a + r0.length))), (3, .int (bI_ true)), (0, .ref mo)]) hx hb dX7_certain_82 rfl hl (by decide) rfl (fun ls hl => ?_)
                  refine lv_goto (tgt := 9) hx hb dX7_certain_83 (by decide) ?_
                  exact ih9 _ (p + w.length) (a + r0.length) _ _ (by omega) (by omega) ⟨p + w.length, Nat.le_refl _, by rw [hpk]; exact md_ct_j hct0 hk0 hc22 hn0 hPj hwp⟩ hm3 hG20 hG21 hG22 hG23 hG24 hG25 hG26 _ _ hP hS ls (lv_sub hl [3, 1, 0] rfl)
  exact L9 (S.length + 1) _ 0 0 _ _ (by omega) (Nat.zero_le _) ⟨0, Nat.le_refl _, rfl⟩ hF2 hF3 hF4 hF5 hF6 hF7 hF8 hF9 _ _ hP hS ls (lv_sub hl [2, 1, 0] rfl)

set_option maxHeartbeats 4000000 in
set_option maxRecDepth 100000 in
/-- endingPattern -/
theorem m_endingPattern (l : Launch) (A : Nat → Prop) (D : ah_G) (F : ah_F) {mo n : Nat} {P : ah_Pt} {dr S : List Nat} {td th : Int32} (hC : md_C D F mo P n dr S td th) {v0 : Int32} : Met l yX7_endingPattern (Cond.code yX7_endingPattern cX7_endingPattern 6 (some .int) :: ah_T) { frames := 1, cells := 0, slots := 0, locals := 24 } (va_Pc [.ref mo, .int v0] (ah_B A D F)) (ah_Qi A D (fun (r : Int32) F1 => md_An D F1 mo (sp_endingPattern P n dr S td v0) r)) 0 0 A := by
  refine ah_met (own := "AhoarchModel") (by decide) rfl (Nat.le_of_ble_eq_true rfl) ?_
  intro p e s m below meth c ls E hr hini hl hP hS Q hQ
  have hx := E.1
  have hb := E.2.1
  have hl : lv_has ls 6 [(0, .ref mo), (1, .int v0)] := hl
  obtain ⟨dA, tA, lA, eA, nlA, neA, sA, ip, il, ln, df, tf, lf, ef, nlf, nef, sf, hmo, hdA, htA, hlA, heA, hnlA, hneA, hsA, hne1, hne2, hne3, hne4, hL⟩ := id hC
  obtain ⟨hn40, hPn, hdok, hSl, hS200, hPok, hdis, hp20, hln, hlP, hdd, hss⟩ := id hL
  have hdl := hdok.1
  refine lv_iload_n hx hb dX7_endingPattern_0 rfl (lv_at hl 1 rfl) ?_
  refine lv_istore_n (lv' := [(2, .int v0), (0, .ref mo), (1, .int v0)]) hx hb dX7_endingPattern_1 rfl hl (by decide) rfl (fun ls hl => ?_)
  refine lv_iconst (v := (-1)) hx hb dX7_endingPattern_2 (by decide) ?_
  refine lv_istore_n (lv' := [(3, .int (-1)), (2, .int v0), (0, .ref mo), (1, .int v0)]) hx hb dX7_endingPattern_3 rfl hl (by decide) rfl (fun ls hl => ?_)
  refine lv_bipush (v := (nI 8)) hx hb dX7_endingPattern_4 (by decide) ?_
  refine lv_istore (lv' := [(4, .int (nI 8)), (3, .int (-1)), (2, .int v0), (0, .ref mo), (1, .int v0)]) hx hb dX7_endingPattern_6 hl (by decide) rfl (fun ls hl => ?_)
  have L8 : ∀ (fuel : Nat), ∀ (d : Nat) (lf0 fd : Int32), 8 - d < fuel → d ≤ 8 → md_eo P S v0 d lf0 fd → ∀ (H : Heap) (locs : List Loc), ah_K A D F H → va_S A s.heap H locs → ∀ (ls : Array Slot), lv_has ls 6 [(0, .ref mo), (2, .int lf0), (3, .int fd), (4, .int (nI (8 - d)))] → W p l e { frames := 1, cells := 0, slots := 0, locals := 24 } s m [.ref mo, .int v0].toArray below meth c H locs 0 0 Q (F0 m 8 ls []) := by
    intro fuel
    induction fuel with
    | zero =>
      intro d lf0 fd hm
      exact absurd hm (Nat.not_lt_zero _)
    | succ fuel ih8 =>
      intro d lf0 fd hm hd8 heo H locs hP hS ls hl
      refine lv_iload hx hb dX7_endingPattern_8 (lv_at hl 3 rfl) ?_
      refine ah_if_le (tgt := 87) hx hb (by omega) dX7_endingPattern_10 (by decide) (fun hc10 => ?_) (fun hc10 => ?_)
      · skip
        have hfin := md_eo_e8 heo (by omega)
        refine lv_aload_n hx hb dX7_endingPattern_87 rfl (lv_at hl 0 rfl) ?_
        refine lv_iload_n hx hb dX7_endingPattern_88 rfl (lv_at hl 2 rfl) ?_
        refine lv_iconst (v := (-1)) hx hb dX7_endingPattern_89 (by decide) ?_
        refine lv_icmp_ne (tgt := 97) hx hb dX7_endingPattern_90 (by decide) (fun hc90 => ?_) (fun hc90 => ?_)
        · skip
          obtain ⟨i, hfi, hep⟩ := md_fin_s hfin hc90
          refine lv_iconst (v := (nI 0)) hx hb dX7_endingPattern_97 (by decide) ?_
          refine ah_calli (ah_runV E hP hS (As := [.int (nI 0)]) (rest := []) (b := mo) (m_holds l A D _ hmo hdA htA hlA heA hnlA hneA hsA hL (k := 0) (by omega)) lk_Mod_46 li_Mod_46 hmo rfl ⟨rfl, rfl, (Nat.le_of_ble_eq_true rfl), (Nat.le_of_ble_eq_true rfl)⟩ rfl hl.1 rfl (Nat.le_of_ble_eq_true rfl) dX7_endingPattern_98 ⟨(Nat.le_of_ble_eq_true rfl), (Nat.le_of_ble_eq_true rfl)⟩) hS (fun r F1 H locs hho98 hP hS => ?_)
          obtain ⟨eho98, hro⟩ := hho98
          have hG2 : F1 dA = some (ah_ai D 8 df) := by rw [eho98]; exact ah_keep hmo hdA rfl
          have hG3 : F1 tA = some (ah_az D 40 tf) := by rw [eho98]; exact ah_keep hmo htA rfl
          have hG4 : F1 lA = some (ah_ai D 40 lf) := by rw [eho98]; exact ah_keep hmo hlA rfl
          have hG5 : F1 eA = some (ah_ai D 320 ef) := by rw [eho98]; exact ah_keep hmo heA rfl
          have hG6 : F1 nlA = some (ah_ai D 40 nlf) := by rw [eho98]; exact ah_keep hmo hnlA rfl
          have hG7 : F1 neA = some (ah_ai D 320 nef) := by rw [eho98]; exact ah_keep hmo hneA rfl
          have hG8 : F1 sA = some (ah_ai D 200 sf) := by rw [eho98]; exact ah_keep hmo hsA rfl
          have hG9 : F1 mo = some (.inr (7, [.int (nI 0), .ref dA, .int (nI dr.length), .int (nI n), .ref tA, .ref lA, .ref eA, .ref nlA, .ref neA, .ref sA, .int (nI S.length), .int td, .int ip, .int il])) := by rw [eho98]; exact ah_up_s _ _ _
          subst hro
          refine ah_ifb_eq (tgt := 108) hx hb dX7_endingPattern_101 (by decide) (fun hc101 => ?_) (fun hc101 => ?_)
          · skip
            exact absurd hc101 (by decide)
          · skip
            refine lv_iload_n hx hb dX7_endingPattern_104 rfl (lv_at hl 2 rfl) ?_
            refine lv_goto (tgt := 109) hx hb dX7_endingPattern_105 (by decide) ?_
            rw [hQ]
            exact ah_iret E hr hP hS (md_An_i (k := 0) (v := fd) (ah_ep_some hep hfi.symm) ⟨dA, tA, lA, eA, nlA, neA, sA, _, _, ln, _, _, _, _, _, _, _, hG9, hG2, hG3, hG4, hG5, hG6, hG7, hG8, hne1, hne2, hne3, hne4, hL⟩ (fun _ => rfl)) (Nat.le_of_ble_eq_true rfl) (Nat.le_of_ble_eq_true rfl) dX7_endingPattern_109
        · skip
          have hep := md_fin_n hfin hc90
          refine lv_iconst (v := (nI 1)) hx hb dX7_endingPattern_93 (by decide) ?_
          refine lv_goto (tgt := 98) hx hb dX7_endingPattern_94 (by decide) ?_
          refine ah_calli (ah_runV E hP hS (As := [.int (nI 1)]) (rest := []) (b := mo) (m_holds l A D _ hmo hdA htA hlA heA hnlA hneA hsA hL (k := 1) (by omega)) lk_Mod_46 li_Mod_46 hmo rfl ⟨rfl, rfl, (Nat.le_of_ble_eq_true rfl), (Nat.le_of_ble_eq_true rfl)⟩ rfl hl.1 rfl (Nat.le_of_ble_eq_true rfl) dX7_endingPattern_98 ⟨(Nat.le_of_ble_eq_true rfl), (Nat.le_of_ble_eq_true rfl)⟩) hS (fun r F10 H locs hho98 hP hS => ?_)
          obtain ⟨eho98, hro⟩ := hho98
          have hG11 : F10 dA = some (ah_ai D 8 df) := by rw [eho98]; exact ah_keep hmo hdA rfl
          have hG12 : F10 tA = some (ah_az D 40 tf) := by rw [eho98]; exact ah_keep hmo htA rfl
          have hG13 : F10 lA = some (ah_ai D 40 lf) := by rw [eho98]; exact ah_keep hmo hlA rfl
          have hG14 : F10 eA = some (ah_ai D 320 ef) := by rw [eho98]; exact ah_keep hmo heA rfl
          have hG15 : F10 nlA = some (ah_ai D 40 nlf) := by rw [eho98]; exact ah_keep hmo hnlA rfl
          have hG16 : F10 neA = some (ah_ai D 320 nef) := by rw [eho98]; exact ah_keep hmo hneA rfl
          have hG17 : F10 sA = some (ah_ai D 200 sf) := by rw [eho98]; exact ah_keep hmo hsA rfl
          have hG18 : F10 mo = some (.inr (7, [.int (nI 1), .ref dA, .int (nI dr.length), .int (nI n), .ref tA, .ref lA, .ref eA, .ref nlA, .ref neA, .ref sA, .int (nI S.length), .int td, .int ip, .int il])) := by rw [eho98]; exact ah_up_s _ _ _
          subst hro
          refine ah_ifb_eq (tgt := 108) hx hb dX7_endingPattern_101 (by decide) (fun hc101 => ?_) (fun hc101 => ?_)
          · skip
            refine lv_iconst (v := (nI 0)) hx hb dX7_endingPattern_108 (by decide) ?_
            rw [hQ]
            exact ah_iret E hr hP hS (md_An_i (k := 1) (v := 0) (ah_ep_none hep) ⟨dA, tA, lA, eA, nlA, neA, sA, _, _, ln, _, _, _, _, _, _, _, hG18, hG11, hG12, hG13, hG14, hG15, hG16, hG17, hne1, hne2, hne3, hne4, hL⟩ (fun h => absurd h (by decide))) (Nat.le_of_ble_eq_true rfl) (Nat.le_of_ble_eq_true rfl) dX7_endingPattern_109
          · skip
            exact absurd hc101 (by decide)
      · skip
        refine lv_iload_n hx hb dX7_endingPattern_13 rfl (lv_at hl 1 rfl) ?_
        refine lv_if_lt (tgt := 87) hx hb dX7_endingPattern_14 (by decide) (fun hc14 => ?_) (fun hc14 => ?_)
        · skip
          have hfin := md_eo_lt heo hc14
          refine lv_aload_n hx hb dX7_endingPattern_87 rfl (lv_at hl 0 rfl) ?_
          refine lv_iload_n hx hb dX7_endingPattern_88 rfl (lv_at hl 2 rfl) ?_
          refine lv_iconst (v := (-1)) hx hb dX7_endingPattern_89 (by decide) ?_
          refine lv_icmp_ne (tgt := 97) hx hb dX7_endingPattern_90 (by decide) (fun hc90 => ?_) (fun hc90 => ?_)
          · skip
            obtain ⟨i, hfi, hep⟩ := md_fin_s hfin hc90
            refine lv_iconst (v := (nI 0)) hx hb dX7_endingPattern_97 (by decide) ?_
            refine ah_calli (ah_runV E hP hS (As := [.int (nI 0)]) (rest := []) (b := mo) (m_holds l A D _ hmo hdA htA hlA heA hnlA hneA hsA hL (k := 0) (by omega)) lk_Mod_46 li_Mod_46 hmo rfl ⟨rfl, rfl, (Nat.le_of_ble_eq_true rfl), (Nat.le_of_ble_eq_true rfl)⟩ rfl hl.1 rfl (Nat.le_of_ble_eq_true rfl) dX7_endingPattern_98 ⟨(Nat.le_of_ble_eq_true rfl), (Nat.le_of_ble_eq_true rfl)⟩) hS (fun r F19 H locs hho98 hP hS => ?_)
            obtain ⟨eho98, hro⟩ := hho98
            have hG20 : F19 dA = some (ah_ai D 8 df) := by rw [eho98]; exact ah_keep hmo hdA rfl
            have hG21 : F19 tA = some (ah_az D 40 tf) := by rw [eho98]; exact ah_keep hmo htA rfl
            have hG22 : F19 lA = some (ah_ai D 40 lf) := by rw [eho98]; exact ah_keep hmo hlA rfl
            have hG23 : F19 eA = some (ah_ai D 320 ef) := by rw [eho98]; exact ah_keep hmo heA rfl
            have hG24 : F19 nlA = some (ah_ai D 40 nlf) := by rw [eho98]; exact ah_keep hmo hnlA rfl
            have hG25 : F19 neA = some (ah_ai D 320 nef) := by rw [eho98]; exact ah_keep hmo hneA rfl
            have hG26 : F19 sA = some (ah_ai D 200 sf) := by rw [eho98]; exact ah_keep hmo hsA rfl
            have hG27 : F19 mo = some (.inr (7, [.int (nI 0), .ref dA, .int (nI dr.length), .int (nI n), .ref tA, .ref lA, .ref eA, .ref nlA, .ref neA, .ref sA, .int (nI S.length), .int td, .int ip, .int il])) := by rw [eho98]; exact ah_up_s _ _ _
            subst hro
            refine ah_ifb_eq (tgt := 108) hx hb dX7_endingPattern_101 (by decide) (fun hc101 => ?_) (fun hc101 => ?_)
            · skip
              exact absurd hc101 (by decide)
            · skip
              refine lv_iload_n hx hb dX7_endingPattern_104 rfl (lv_at hl 2 rfl) ?_
              refine lv_goto (tgt := 109) hx hb dX7_endingPattern_105 (by decide) ?_
              rw [hQ]
              exact ah_iret E hr hP hS (md_An_i (k := 0) (v := fd) (ah_ep_some hep hfi.symm) ⟨dA, tA, lA, eA, nlA, neA, sA, _, _, ln, _, _, _, _, _, _, _, hG27, hG20, hG21, hG22, hG23, hG24, hG25, hG26, hne1, hne2, hne3, hne4, hL⟩ (fun _ => rfl)) (Nat.le_of_ble_eq_true rfl) (Nat.le_of_ble_eq_true rfl) dX7_endingPattern_109
          · skip
            have hep := md_fin_n hfin hc90
            refine lv_iconst (v := (nI 1)) hx hb dX7_endingPattern_93 (by decide) ?_
            refine lv_goto (tgt := 98) hx hb dX7_endingPattern_94 (by decide) ?_
            refine ah_calli (ah_runV E hP hS (As := [.int (nI 1)]) (rest := []) (b := mo) (m_holds l A D _ hmo hdA htA hlA heA hnlA hneA hsA hL (k := 1) (by omega)) lk_Mod_46 li_Mod_46 hmo rfl ⟨rfl, rfl, (Nat.le_of_ble_eq_true rfl), (Nat.le_of_ble_eq_true rfl)⟩ rfl hl.1 rfl (Nat.le_of_ble_eq_true rfl) dX7_endingPattern_98 ⟨(Nat.le_of_ble_eq_true rfl), (Nat.le_of_ble_eq_true rfl)⟩) hS (fun r F28 H locs hho98 hP hS => ?_)
            obtain ⟨eho98, hro⟩ := hho98
            have hG29 : F28 dA = some (ah_ai D 8 df) := by rw [eho98]; exact ah_keep hmo hdA rfl
            have hG30 : F28 tA = some (ah_az D 40 tf) := by rw [eho98]; exact ah_keep hmo htA rfl
            have hG31 : F28 lA = some (ah_ai D 40 lf) := by rw [eho98]; exact ah_keep hmo hlA rfl
            have hG32 : F28 eA = some (ah_ai D 320 ef) := by rw [eho98]; exact ah_keep hmo heA rfl
            have hG33 : F28 nlA = some (ah_ai D 40 nlf) := by rw [eho98]; exact ah_keep hmo hnlA rfl
            have hG34 : F28 neA = some (ah_ai D 320 nef) := by rw [eho98]; exact ah_keep hmo hneA rfl
            have hG35 : F28 sA = some (ah_ai D 200 sf) := by rw [eho98]; exact ah_keep hmo hsA rfl
            have hG36 : F28 mo = some (.inr (7, [.int (nI 1), .ref dA, .int (nI dr.length), .int (nI n), .ref tA, .ref lA, .ref eA, .ref nlA, .ref neA, .ref sA, .int (nI S.length), .int td, .int ip, .int il])) := by rw [eho98]; exact ah_up_s _ _ _
            subst hro
            refine ah_ifb_eq (tgt := 108) hx hb dX7_endingPattern_101 (by decide) (fun hc101 => ?_) (fun hc101 => ?_)
            · skip
              refine lv_iconst (v := (nI 0)) hx hb dX7_endingPattern_108 (by decide) ?_
              rw [hQ]
              exact ah_iret E hr hP hS (md_An_i (k := 1) (v := 0) (ah_ep_none hep) ⟨dA, tA, lA, eA, nlA, neA, sA, _, _, ln, _, _, _, _, _, _, _, hG36, hG29, hG30, hG31, hG32, hG33, hG34, hG35, hne1, hne2, hne3, hne4, hL⟩ (fun h => absurd h (by decide))) (Nat.le_of_ble_eq_true rfl) (Nat.le_of_ble_eq_true rfl) dX7_endingPattern_109
            · skip
              exact absurd hc101 (by decide)
        · skip
          refine lv_iconst (v := (nI 0)) hx hb dX7_endingPattern_17 (by decide) ?_
          refine lv_istore (lv' := [(5, .int (nI 0)), (0, .ref mo), (2, .int lf0), (3, .int fd), (4, .int (nI (8 - d)))]) hx hb dX7_endingPattern_18 hl (by decide) rfl (fun ls hl => ?_)
          have L20 : ∀ (fuel : Nat), ∀ (o : Nat) (lf1 fd1 : Int32), n - o < fuel → o ≤ n → md_ei P S v0 d o lf1 fd1 → ∀ (H : Heap) (locs : List Loc), ah_K A D F H → va_S A s.heap H locs → ∀ (ls : Array Slot), lv_has ls 6 [(0, .ref mo), (2, .int lf1), (3, .int fd1), (4, .int (nI (8 - d))), (5, .int (nI o))] → W p l e { frames := 1, cells := 0, slots := 0, locals := 24 } s m [.ref mo, .int v0].toArray below meth c H locs 0 0 Q (F0 m 20 ls []) := by
            intro fuel
            induction fuel with
            | zero =>
              intro o lf1 fd1 hm
              exact absurd hm (Nat.not_lt_zero _)
            | succ fuel ih20 =>
              intro o lf1 fd1 hm ho hei H locs hP hS ls hl
              refine lv_iload hx hb dX7_endingPattern_20 (lv_at hl 4 rfl) ?_
              refine lv_aload_n hx hb dX7_endingPattern_22 rfl (lv_at hl 0 rfl) ?_
              refine gf_Mod_36 E hP hmo rfl dX7_endingPattern_23 ?_
              refine ah_icmp_ge (tgt := 81) hx hb (by omega) (by omega) dX7_endingPattern_26 (by decide) (fun hc26 => ?_) (fun hc26 => ?_)
              · skip
                rw [show o = n by omega] at hei
                refine lv_iinc (v := (nI (8 - (d + 1)))) (lv' := [(4, .int (nI (8 - (d + 1)))), (0, .ref mo), (2, .int lf1), (3, .int fd1), (5, .int (nI o))]) hx hb dX7_endingPattern_81 hl (k := 3) rfl ((ah_dec (by omega)).trans (by rw [Nat.sub_sub])) (by decide) rfl (fun ls hl => ?_)
                refine lv_goto (tgt := 8) hx hb dX7_endingPattern_84 (by decide) ?_
                exact ih8 (d + 1) _ _ (by omega) (by omega) (md_ei_n hn40 hPn hei) _ _ hP hS ls (lv_sub hl [1, 2, 3, 0] rfl)
              · skip
                obtain ⟨hl8, hlf, htf⟩ := hln o (by omega)
                have hlk := fun w r h => (hlP o w r h).1
                refine lv_iload_n hx hb dX7_endingPattern_29 rfl (lv_at hl 1 rfl) ?_
                refine lv_if_lt (tgt := 81) hx hb dX7_endingPattern_30 (by decide) (fun hc30 => ?_) (fun hc30 => ?_)
                · skip
                  refine lv_iinc (v := (nI (8 - (d + 1)))) (lv' := [(4, .int (nI (8 - (d + 1)))), (0, .ref mo), (2, .int lf1), (3, .int fd1), (5, .int (nI o))]) hx hb dX7_endingPattern_81 hl (k := 3) rfl ((ah_dec (by omega)).trans (by rw [Nat.sub_sub])) (by decide) rfl (fun ls hl => ?_)
                  refine lv_goto (tgt := 8) hx hb dX7_endingPattern_84 (by decide) ?_
                  exact ih8 (d + 1) _ _ (by omega) (by omega) (md_ei_lt hei hc30) _ _ hP hS ls (lv_sub hl [1, 2, 3, 0] rfl)
                · skip
                  obtain ⟨y, hly, hfd, hy31, hea⟩ := md_ei_nn hei hc30
                  rw [hly, hfd] at hl
                  refine lv_aload_n hx hb dX7_endingPattern_33 rfl (lv_at hl 0 rfl) ?_
                  refine gf_Mod_17 E hP hmo rfl dX7_endingPattern_34 ?_
                  refine lv_iload hx hb dX7_endingPattern_37 (lv_at hl 4 rfl) ?_
                  refine ah_iald E hP hlA (by omega) (by omega) dX7_endingPattern_39 ?_
                  rw [hlf]
                  refine lv_iload hx hb dX7_endingPattern_40 (lv_at hl 3 rfl) ?_
                  refine ah_icmp_ne (tgt := 75) hx hb (by omega) (by omega) dX7_endingPattern_42 (by decide) (fun hc42 => ?_) (fun hc42 => ?_)
                  · skip
                    refine lv_iinc (v := (nI (o + 1))) (lv' := [(5, .int (nI (o + 1))), (0, .ref mo), (2, .int (nI y)), (3, .int (-1)), (4, .int (nI (8 - d)))]) hx hb dX7_endingPattern_75 hl (k := 4) rfl (ah_inc _) (by decide) rfl (fun ls hl => ?_)
                    refine lv_goto (tgt := 20) hx hb dX7_endingPattern_78 (by decide) ?_
                    exact ih20 (o + 1) _ _ (by omega) (by omega) (md_ei_x hea (md_et_f hlk hc42)) _ _ hP hS ls (lv_sub hl [1, 2, 3, 4, 0] rfl)
                  · skip
                    refine lv_aload_n hx hb dX7_endingPattern_45 rfl (lv_at hl 0 rfl) ?_
                    refine lv_iload hx hb dX7_endingPattern_46 (lv_at hl 4 rfl) ?_
                    refine lv_aload_n hx hb dX7_endingPattern_48 rfl (lv_at hl 0 rfl) ?_
                    refine gf_Mod_67 E hP hmo rfl dX7_endingPattern_49 ?_
                    refine lv_iload hx hb dX7_endingPattern_52 (lv_at hl 3 rfl) ?_
                    by_cases hle : 8 - d ≤ S.length
                    · skip
                      refine ah_isub hx hb (by omega) dX7_endingPattern_54 ?_
                      refine ah_calli (ah_runV E hP hS (As := [.int (nI o), .int (nI (S.length - (8 - d)))]) (rest := []) (b := mo) (m_stands l A D _ hmo hdA htA hlA heA hnlA hneA hsA hL (pl := S.length - (8 - d)) (i := o) (by omega) (by omega)) lk_Mod_70 li_Mod_70 hmo rfl ⟨rfl, rfl, (Nat.le_of_ble_eq_true rfl), (Nat.le_of_ble_eq_true rfl)⟩ rfl hl.1 rfl (Nat.le_of_ble_eq_true rfl) dX7_endingPattern_55 ⟨(Nat.le_of_ble_eq_true rfl), (Nat.le_of_ble_eq_true rfl)⟩) hS (fun r F37 H locs hq hP hS => ?_)
                      obtain ⟨rfl, rfl⟩ := hq
                      refine ah_ifb_eq (tgt := 75) hx hb dX7_endingPattern_58 (by decide) (fun hc58 => ?_) (fun hc58 => ?_)
                      · skip
                        refine lv_iinc (v := (nI (o + 1))) (lv' := [(5, .int (nI (o + 1))), (0, .ref mo), (2, .int (nI y)), (3, .int (-1)), (4, .int (nI (8 - d)))]) hx hb dX7_endingPattern_75 hl (k := 4) rfl (ah_inc _) (by decide) rfl (fun ls hl => ?_)
                        refine lv_goto (tgt := 20) hx hb dX7_endingPattern_78 (by decide) ?_
                        exact ih20 (o + 1) _ _ (by omega) (by omega) (md_ei_x hea ((md_et_t hlk hc42 hle).symm.trans hc58)) _ _ hP hS ls (lv_sub hl [1, 2, 3, 4, 0] rfl)
                      · skip
                        refine lv_iload_n hx hb dX7_endingPattern_61 rfl (lv_at hl 1 rfl) ?_
                        refine ah_if_ne (tgt := 70) hx hb (by omega) dX7_endingPattern_62 (by decide) (fun hc62 => ?_) (fun hc62 => ?_)
                        · skip
                          refine lv_iload_n hx hb dX7_endingPattern_70 rfl (lv_at hl 2 rfl) ?_
                          refine lv_istore_n (lv' := [(3, .int (-1)), (0, .ref mo), (2, .int (nI y)), (4, .int (nI (8 - d))), (5, .int (nI o))]) hx hb dX7_endingPattern_71 rfl hl (by decide) rfl (fun ls hl => ?_)
                          refine lv_iinc (v := (nI y - nI 1)) (lv' := [(2, .int (nI y - nI 1)), (3, .int (-1)), (0, .ref mo), (4, .int (nI (8 - d))), (5, .int (nI o))]) hx hb dX7_endingPattern_72 hl (k := 2) rfl (md_dec y) (by decide) rfl (fun ls hl => ?_)
                          refine lv_iinc (v := (nI (o + 1))) (lv' := [(5, .int (nI (o + 1))), (2, .int (nI y - nI 1)), (3, .int (-1)), (0, .ref mo), (4, .int (nI (8 - d)))]) hx hb dX7_endingPattern_75 hl (k := 4) rfl (ah_inc _) (by decide) rfl (fun ls hl => ?_)
                          refine lv_goto (tgt := 20) hx hb dX7_endingPattern_78 (by decide) ?_
                          exact ih20 (o + 1) _ _ (by omega) (by omega) (md_ei_p hdis (by omega) hea ((md_et_t hlk hc42 hle).symm.trans hc58) hc62) _ _ hP hS ls (lv_sub hl [3, 1, 2, 4, 0] rfl)
                        · skip
                          refine lv_iload hx hb dX7_endingPattern_65 (lv_at hl 4 rfl) ?_
                          refine lv_goto (tgt := 71) hx hb dX7_endingPattern_67 (by decide) ?_
                          refine lv_istore_n (lv' := [(3, .int (nI o)), (0, .ref mo), (2, .int (nI y)), (4, .int (nI (8 - d))), (5, .int (nI o))]) hx hb dX7_endingPattern_71 rfl hl (by decide) rfl (fun ls hl => ?_)
                          refine lv_iinc (v := (nI y - nI 1)) (lv' := [(2, .int (nI y - nI 1)), (3, .int (nI o)), (0, .ref mo), (4, .int (nI (8 - d))), (5, .int (nI o))]) hx hb dX7_endingPattern_72 hl (k := 2) rfl (md_dec y) (by decide) rfl (fun ls hl => ?_)
                          refine lv_iinc (v := (nI (o + 1))) (lv' := [(5, .int (nI (o + 1))), (2, .int (nI y - nI 1)), (3, .int (nI o)), (0, .ref mo), (4, .int (nI (8 - d)))]) hx hb dX7_endingPattern_75 hl (k := 4) rfl (ah_inc _) (by decide) rfl (fun ls hl => ?_)
                          refine lv_goto (tgt := 20) hx hb dX7_endingPattern_78 (by decide) ?_
                          exact ih20 (o + 1) _ _ (by omega) (by omega) (md_ei_z hdis (by omega) (by omega) hea ((md_et_t hlk hc42 hle).symm.trans hc58) hc62) _ _ hP hS ls (lv_sub hl [3, 1, 2, 4, 0] rfl)
                    · skip
                      refine lv_isub hx hb dX7_endingPattern_54 ?_
                      refine ah_calli (ah_runV E hP hS (As := [.int (nI o), .int ((nI S.length) - (nI (8 - d)))]) (rest := []) (b := mo) (m_stands_neg l A D _ hmo hdA htA hlA heA hnlA hneA hsA hL (i := o) (by omega) (md_neg (by omega) (by omega) hle)) lk_Mod_70 li_Mod_70 hmo rfl ⟨rfl, rfl, (Nat.le_of_ble_eq_true rfl), (Nat.le_of_ble_eq_true rfl)⟩ rfl hl.1 rfl (Nat.le_of_ble_eq_true rfl) dX7_endingPattern_55 ⟨(Nat.le_of_ble_eq_true rfl), (Nat.le_of_ble_eq_true rfl)⟩) hS (fun r F38 H locs hq hP hS => ?_)
                      obtain ⟨rfl, rfl⟩ := hq
                      refine ah_ifb_eq (tgt := 75) hx hb dX7_endingPattern_58 (by decide) (fun hc58 => ?_) (fun hc58 => ?_)
                      · skip
                        refine lv_iinc (v := (nI (o + 1))) (lv' := [(5, .int (nI (o + 1))), (0, .ref mo), (2, .int (nI y)), (3, .int (-1)), (4, .int (nI (8 - d)))]) hx hb dX7_endingPattern_75 hl (k := 4) rfl (ah_inc _) (by decide) rfl (fun ls hl => ?_)
                        refine lv_goto (tgt := 20) hx hb dX7_endingPattern_78 (by decide) ?_
                        exact ih20 (o + 1) _ _ (by omega) (by omega) (md_ei_x hea (md_et_g hlk hc42 hle)) _ _ hP hS ls (lv_sub hl [1, 2, 3, 4, 0] rfl)
                      · skip
                        exact absurd hc58 (by decide)
          exact L20 (n + 1) 0 _ _ (by omega) (Nat.zero_le _) (md_ei_0 heo) _ _ hP hS ls (lv_sub hl [1, 2, 3, 4, 0] rfl)
  exact L8 (9) 0 _ _ (by omega) (by omega) md_eo_0 _ _ hP hS ls (lv_sub hl [3, 2, 1, 0] rfl)
