/-! the reference's state -/
def ah_Pdis (P : ah_Pt) : Prop := ∀ (i j : Nat) (w r r2 : List Nat), P i = some (w, r) → P j = some (w, r2) → i = j
def md_L (P : ah_Pt) (n : Nat) (dr S : List Nat) (ln : Nat → Nat) (df tf lf ef nlf nef sf : Nat → Int32) : Prop :=
  n ≤ 40 ∧ (∀ i, n ≤ i → P i = none) ∧ ah_ok dr ∧ ah_lt S ∧ S.length ≤ 200 ∧ ah_Pok P ∧ ah_Pdis P ∧ pu_cn (fun i => (P i).isSome) 40 ≤ 20 ∧ (∀ i, i < n → ln i ≤ 8 ∧ lf i = nI (ln i) ∧ tf i = bI_ (P i).isSome) ∧
  (∀ (i : Nat) (w r : List Nat), P i = some (w, r) → ln i = w.length ∧ (∀ k, k < w.length → ef (8 * i + k) = nI (96 + w.getD k 0)) ∧ nlf i = nI r.length ∧ ∀ k, k < r.length → nef (8 * i + k) = nI (96 + r.getD k 0)) ∧
  (∀ k, k < dr.length → df k = nI (96 + dr.getD k 0)) ∧ (∀ k, k < S.length → sf k = nI (96 + S.getD k 0))
def md_C (D : ah_G) (F : ah_F) (mo : Nat) (P : ah_Pt) (n : Nat) (dr S : List Nat) (td th : Int32) : Prop :=
  ∃ (dA tA lA eA nlA neA sA : Nat) (ip il : Int32) (ln : Nat → Nat) (df tf lf ef nlf nef sf : Nat → Int32), F mo = some (.inr (7, [.int th, .ref dA, .int (nI dr.length), .int (nI n), .ref tA, .ref lA, .ref eA, .ref nlA, .ref neA, .ref sA, .int (nI S.length), .int td, .int ip, .int il])) ∧ F dA = some (ah_ai D 8 df) ∧ F tA = some (ah_az D 40 tf) ∧ F lA = some (ah_ai D 40 lf) ∧ F eA = some (ah_ai D 320 ef) ∧ F nlA = some (ah_ai D 40 nlf) ∧ F neA = some (ah_ai D 320 nef) ∧ F sA = some (ah_ai D 200 sf) ∧ lA ≠ nlA ∧ eA ≠ neA ∧ tA ≠ lA ∧ tA ≠ nlA ∧ md_L P n dr S ln df tf lf ef nlf nef sf
def md_An (D : ah_G) (F1 : ah_F) (mo : Nat) (a : ah_Ans) (r : Int32) : Prop := md_C D F1 mo a.2.2.1 a.2.2.2.1 a.2.2.2.2.1 a.2.2.2.2.2.1 a.2.2.2.2.2.2 (nI a.1) ∧ (a.1 = 0 → r = a.2.1)
theorem md_An_i {D : ah_G} {F1 : ah_F} {mo k : Nat} {a : ah_Ans} {v r : Int32} {P : ah_Pt} {n : Nat} {dr S : List Nat} {td : Int32} (e : a = (k, v, (P, n, dr, S, td))) (hC : md_C D F1 mo P n dr S td (nI k)) (hv : k = 0 → r = v) : md_An D F1 mo a r := by
  subst e
  exact ⟨hC, hv⟩
theorem pu_cn_off {p : Nat → Bool} {a b : Nat} (hab : a ≤ b) (h : ∀ i, a ≤ i → p i = false) : pu_cn p b = pu_cn p a := by
  induction b with
  | zero => rw [show a = 0 by omega]
  | succ b ih =>
    by_cases e : a = b + 1
    · rw [e]
    · rw [pu_cn_f (h b (by omega)), ih (by omega)]
theorem ah_pi_of {P : ah_Pt} {x : Int32} {i : Nat} (hx : x = nI i) (hi : i < 40) (hp : (P i).isSome = true) : ah_pi P x = some i := by
  subst hx
  rw [ah_pi, ah_ix_in hi]
  simp [hp]
theorem ah_pi_neg {P : ah_Pt} {x : Int32} (h : x < 0) : ah_pi P x = none := by rw [ah_pi, ah_ix_neg h]; rfl
theorem ah_pi_ge {P : ah_Pt} {x : Int32} {n : Nat} (hn : n ≤ 40) (hP : ∀ i, n ≤ i → P i = none) (h : nI n ≤ x) : ah_pi P x = none := by
  cases e : ah_pi P x with
  | none => rfl
  | some i =>
    obtain ⟨h1, h2, h3⟩ := ah_pi_lt e
    subst h2
    have := (nI_leI (by omega) (by omega)).mp h
    rw [hP i this] at h3
    cases h3
theorem ah_pi_no {P : ah_Pt} {i : Nat} (hi : i < 40) (hp : (P i).isSome = false) : ah_pi P (nI i) = none := by
  rw [ah_pi, ah_ix_in hi]
  simp [hp]
theorem md_L_0 {df tf lf ef nlf nef sf : Nat → Int32} : md_L (fun _ => none) 0 [] [] (fun _ => 0) df tf lf ef nlf nef sf := by
  refine ⟨Nat.zero_le _, fun _ _ => rfl, ⟨Nat.zero_le _, fun z hz => by simp at hz⟩, fun z hz => by simp at hz, Nat.zero_le _, ?_, ?_, Nat.zero_le _, ?_, ?_, ?_, ?_⟩
  · intro i w r h; cases h
  · intro i j w r r2 h; cases h
  · intro i hi; exact absurd hi (Nat.not_lt_zero i)
  · intro i w r h; cases h
  · intro k hk; exact absurd hk (Nat.not_lt_zero k)
  · intro k hk; exact absurd hk (Nat.not_lt_zero k)
set_option maxHeartbeats 4000000 in
set_option maxRecDepth 100000 in
/-- <init> -/
theorem m_init (l : Launch) (A : Nat → Prop) (D : ah_G) (F : ah_F) {mo : Nat} (hm0 : F mo = some (.inr (7, [.int (nI 0), .null, .int (nI 0), .int (nI 0), .null, .null, .null, .null, .null, .null, .int (nI 0), .int (nI 0), .int (nI 0), .int (nI 0)]))) : Met l yX7_init (Cond.code yX7_init cX7_init 1 none :: ah_T) { frames := 1, cells := 7, slots := 968, locals := 20 } (va_Pc [.ref mo] (ah_B A D F)) (ah_Qv A D (fun F1 => md_C D F1 mo (fun _ => none) 0 [] [] (nI 0) (nI 0))) 7 968 A := by
  refine ah_met (own := "AhoarchModel") (by decide) rfl (Nat.le_of_ble_eq_true rfl) ?_
  intro p e s m below meth c ls E hr hini hl hP hS Q hQ
  have hx := E.1
  have hb := E.2.1
  have hl : lv_has ls 1 [(0, .ref mo)] := hl
  refine lv_aload_n hx hb dX7_init_0 rfl (lv_at hl 0 rfl) ?_
  refine oi_Mod E hl.1 dX7_init_1 (Nat.le_of_ble_eq_true rfl) (Nat.le_of_ble_eq_true rfl) ?_
  refine lv_aload_n hx hb dX7_init_4 rfl (lv_at hl 0 rfl) ?_
  refine lv_bipush (v := (nI 8)) hx hb dX7_init_5 (by decide) ?_
  refine ah_newa (atype := .int) (ty := .int) (t0 := 0) (a0 := (8, .inl (fun _ => 0))) (N := 8) E hP hS rfl (fun _ h => nomatch h) rfl (ah_in 79 (by decide +kernel) rfl) (fun _ => rfl) (by decide) (Nat.le_of_ble_eq_true rfl) (Nat.le_of_ble_eq_true rfl) (Nat.le_of_ble_eq_true rfl) dX7_init_7 (fun dA H hn_dA hP hS => ?_)
  obtain ⟨F1, eF1⟩ : ∃ Fz : ah_F, Fz = ah_up F dA (ah_ai D 8 (fun _ => 0)) := ⟨_, rfl⟩
  have hP : ah_K A D F1 H := by rw [eF1]; exact hP
  have hF2 : F1 dA = some (ah_ai D 8 (fun _ => 0)) := by rw [eF1]; exact ah_up_s _ _ _
  have hF3 : F1 mo = some (.inr (7, [.int (nI 0), .null, .int (nI 0), .int (nI 0), .null, .null, .null, .null, .null, .null, .int (nI 0), .int (nI 0), .int (nI 0), .int (nI 0)])) := by rw [eF1]; exact (ah_up_n _ _ (ah_fr hn_dA hm0)).trans hm0
  refine pf_Mod_7 E hini hP hS hF3 (Nat.le_of_ble_eq_true rfl) dX7_init_9 (fun H locs hP hS => ?_)
  obtain ⟨F4, eF4⟩ : ∃ Fz : ah_F, Fz = ah_up F1 mo (.inr (7, [.int (nI 0), .ref dA, .int (nI 0), .int (nI 0), .null, .null, .null, .null, .null, .null, .int (nI 0), .int (nI 0), .int (nI 0), .int (nI 0)])) := ⟨_, rfl⟩
  have hP : ah_K A D F4 H := by rw [eF4]; exact hP
  have hF5 : F4 mo = some (.inr (7, [.int (nI 0), .ref dA, .int (nI 0), .int (nI 0), .null, .null, .null, .null, .null, .null, .int (nI 0), .int (nI 0), .int (nI 0), .int (nI 0)])) := by rw [eF4]; exact ah_up_s _ _ _
  have hF6 : F4 dA = some (ah_ai D 8 (fun _ => 0)) := by rw [eF4]; exact ah_keep hF3 hF2 rfl
  refine lv_aload_n hx hb dX7_init_12 rfl (lv_at hl 0 rfl) ?_
  refine lv_bipush (v := (nI 40)) hx hb dX7_init_13 (by decide) ?_
  refine ah_newa (atype := .boolean) (ty := .boolean) (t0 := 1) (a0 := (40, .inl (fun _ => 0))) (N := 40) E hP hS rfl (fun _ h => nomatch h) rfl (ah_in 707 (by decide +kernel) rfl) (fun _ => rfl) (by decide) (Nat.le_of_ble_eq_true rfl) (Nat.le_of_ble_eq_true rfl) (Nat.le_of_ble_eq_true rfl) dX7_init_15 (fun tA H hn_tA hP hS => ?_)
  obtain ⟨F7, eF7⟩ : ∃ Fz : ah_F, Fz = ah_up F4 tA (ah_az D 40 (fun _ => 0)) := ⟨_, rfl⟩
  have hP : ah_K A D F7 H := by rw [eF7]; exact hP
  have hF8 : F7 tA = some (ah_az D 40 (fun _ => 0)) := by rw [eF7]; exact ah_up_s _ _ _
  have hF9 : F7 dA = some (ah_ai D 8 (fun _ => 0)) := by rw [eF7]; exact (ah_up_n _ _ (ah_fr hn_tA hF6)).trans hF6
  have hF10 : F7 mo = some (.inr (7, [.int (nI 0), .ref dA, .int (nI 0), .int (nI 0), .null, .null, .null, .null, .null, .null, .int (nI 0), .int (nI 0), .int (nI 0), .int (nI 0)])) := by rw [eF7]; exact (ah_up_n _ _ (ah_fr hn_tA hF5)).trans hF5
  refine pf_Mod_13 E hini hP hS hF10 (Nat.le_of_ble_eq_true rfl) dX7_init_17 (fun H locs hP hS => ?_)
  obtain ⟨F11, eF11⟩ : ∃ Fz : ah_F, Fz = ah_up F7 mo (.inr (7, [.int (nI 0), .ref dA, .int (nI 0), .int (nI 0), .ref tA, .null, .null, .null, .null, .null, .int (nI 0), .int (nI 0), .int (nI 0), .int (nI 0)])) := ⟨_, rfl⟩
  have hP : ah_K A D F11 H := by rw [eF11]; exact hP
  have hF12 : F11 mo = some (.inr (7, [.int (nI 0), .ref dA, .int (nI 0), .int (nI 0), .ref tA, .null, .null, .null, .null, .null, .int (nI 0), .int (nI 0), .int (nI 0), .int (nI 0)])) := by rw [eF11]; exact ah_up_s _ _ _
  have hF13 : F11 dA = some (ah_ai D 8 (fun _ => 0)) := by rw [eF11]; exact ah_keep hF10 hF9 rfl
  have hF14 : F11 tA = some (ah_az D 40 (fun _ => 0)) := by rw [eF11]; exact ah_keep hF10 hF8 rfl
  refine lv_aload_n hx hb dX7_init_20 rfl (lv_at hl 0 rfl) ?_
  refine lv_bipush (v := (nI 40)) hx hb dX7_init_21 (by decide) ?_
  refine ah_newa (atype := .int) (ty := .int) (t0 := 0) (a0 := (40, .inl (fun _ => 0))) (N := 40) E hP hS rfl (fun _ h => nomatch h) rfl (ah_in 79 (by decide +kernel) rfl) (fun _ => rfl) (by decide) (Nat.le_of_ble_eq_true rfl) (Nat.le_of_ble_eq_true rfl) (Nat.le_of_ble_eq_true rfl) dX7_init_23 (fun lA H hn_lA hP hS => ?_)
  obtain ⟨F15, eF15⟩ : ∃ Fz : ah_F, Fz = ah_up F11 lA (ah_ai D 40 (fun _ => 0)) := ⟨_, rfl⟩
  have hP : ah_K A D F15 H := by rw [eF15]; exact hP
  have hF16 : F15 lA = some (ah_ai D 40 (fun _ => 0)) := by rw [eF15]; exact ah_up_s _ _ _
  have ne_dA_lA : dA ≠ lA := ah_fr hn_lA hF13
  have hF17 : F15 dA = some (ah_ai D 8 (fun _ => 0)) := by rw [eF15]; exact (ah_up_n _ _ (ah_fr hn_lA hF13)).trans hF13
  have ne_tA_lA : tA ≠ lA := ah_fr hn_lA hF14
  have hF18 : F15 tA = some (ah_az D 40 (fun _ => 0)) := by rw [eF15]; exact (ah_up_n _ _ (ah_fr hn_lA hF14)).trans hF14
  have hF19 : F15 mo = some (.inr (7, [.int (nI 0), .ref dA, .int (nI 0), .int (nI 0), .ref tA, .null, .null, .null, .null, .null, .int (nI 0), .int (nI 0), .int (nI 0), .int (nI 0)])) := by rw [eF15]; exact (ah_up_n _ _ (ah_fr hn_lA hF12)).trans hF12
  refine pf_Mod_17 E hini hP hS hF19 (Nat.le_of_ble_eq_true rfl) dX7_init_25 (fun H locs hP hS => ?_)
  obtain ⟨F20, eF20⟩ : ∃ Fz : ah_F, Fz = ah_up F15 mo (.inr (7, [.int (nI 0), .ref dA, .int (nI 0), .int (nI 0), .ref tA, .ref lA, .null, .null, .null, .null, .int (nI 0), .int (nI 0), .int (nI 0), .int (nI 0)])) := ⟨_, rfl⟩
  have hP : ah_K A D F20 H := by rw [eF20]; exact hP
  have hF21 : F20 mo = some (.inr (7, [.int (nI 0), .ref dA, .int (nI 0), .int (nI 0), .ref tA, .ref lA, .null, .null, .null, .null, .int (nI 0), .int (nI 0), .int (nI 0), .int (nI 0)])) := by rw [eF20]; exact ah_up_s _ _ _
  have hF22 : F20 dA = some (ah_ai D 8 (fun _ => 0)) := by rw [eF20]; exact ah_keep hF19 hF17 rfl
  have hF23 : F20 tA = some (ah_az D 40 (fun _ => 0)) := by rw [eF20]; exact ah_keep hF19 hF18 rfl
  have hF24 : F20 lA = some (ah_ai D 40 (fun _ => 0)) := by rw [eF20]; exact ah_keep hF19 hF16 rfl
  refine lv_aload_n hx hb dX7_init_28 rfl (lv_at hl 0 rfl) ?_
  refine lv_sipush (v := (nI 320)) hx hb dX7_init_29 (by decide) ?_
  refine ah_newa (atype := .int) (ty := .int) (t0 := 0) (a0 := (320, .inl (fun _ => 0))) (N := 320) E hP hS rfl (fun _ h => nomatch h) rfl (ah_in 79 (by decide +kernel) rfl) (fun _ => rfl) (by decide) (Nat.le_of_ble_eq_true rfl) (Nat.le_of_ble_eq_true rfl) (Nat.le_of_ble_eq_true rfl) dX7_init_32 (fun eA H hn_eA hP hS => ?_)
  obtain ⟨F25, eF25⟩ : ∃ Fz : ah_F, Fz = ah_up F20 eA (ah_ai D 320 (fun _ => 0)) := ⟨_, rfl⟩
  have hP : ah_K A D F25 H := by rw [eF25]; exact hP
  have hF26 : F25 eA = some (ah_ai D 320 (fun _ => 0)) := by rw [eF25]; exact ah_up_s _ _ _
  have hF27 : F25 dA = some (ah_ai D 8 (fun _ => 0)) := by rw [eF25]; exact (ah_up_n _ _ (ah_fr hn_eA hF22)).trans hF22
  have hF28 : F25 tA = some (ah_az D 40 (fun _ => 0)) := by rw [eF25]; exact (ah_up_n _ _ (ah_fr hn_eA hF23)).trans hF23
  have hF29 : F25 lA = some (ah_ai D 40 (fun _ => 0)) := by rw [eF25]; exact (ah_up_n _ _ (ah_fr hn_eA hF24)).trans hF24
  have hF30 : F25 mo = some (.inr (7, [.int (nI 0), .ref dA, .int (nI 0), .int (nI 0), .ref tA, .ref lA, .null, .null, .null, .null, .int (nI 0), .int (nI 0), .int (nI 0), .int (nI 0)])) := by rw [eF25]; exact (ah_up_n _ _ (ah_fr hn_eA hF21)).trans hF21
  refine pf_Mod_20 E hini hP hS hF30 (Nat.le_of_ble_eq_true rfl) dX7_init_34 (fun H locs hP hS => ?_)
  obtain ⟨F31, eF31⟩ : ∃ Fz : ah_F, Fz = ah_up F25 mo (.inr (7, [.int (nI 0), .ref dA, .int (nI 0), .int (nI 0), .ref tA, .ref lA, .ref eA, .null, .null, .null, .int (nI 0), .int (nI 0), .int (nI 0), .int (nI 0)])) := ⟨_, rfl⟩
  have hP : ah_K A D F31 H := by rw [eF31]; exact hP
  have hF32 : F31 mo = some (.inr (7, [.int (nI 0), .ref dA, .int (nI 0), .int (nI 0), .ref tA, .ref lA, .ref eA, .null, .null, .null, .int (nI 0), .int (nI 0), .int (nI 0), .int (nI 0)])) := by rw [eF31]; exact ah_up_s _ _ _
  have hF33 : F31 dA = some (ah_ai D 8 (fun _ => 0)) := by rw [eF31]; exact ah_keep hF30 hF27 rfl
  have hF34 : F31 tA = some (ah_az D 40 (fun _ => 0)) := by rw [eF31]; exact ah_keep hF30 hF28 rfl
  have hF35 : F31 lA = some (ah_ai D 40 (fun _ => 0)) := by rw [eF31]; exact ah_keep hF30 hF29 rfl
  have hF36 : F31 eA = some (ah_ai D 320 (fun _ => 0)) := by rw [eF31]; exact ah_keep hF30 hF26 rfl
  refine lv_aload_n hx hb dX7_init_37 rfl (lv_at hl 0 rfl) ?_
  refine lv_bipush (v := (nI 40)) hx hb dX7_init_38 (by decide) ?_
  refine ah_newa (atype := .int) (ty := .int) (t0 := 0) (a0 := (40, .inl (fun _ => 0))) (N := 40) E hP hS rfl (fun _ h => nomatch h) rfl (ah_in 79 (by decide +kernel) rfl) (fun _ => rfl) (by decide) (Nat.le_of_ble_eq_true rfl) (Nat.le_of_ble_eq_true rfl) (Nat.le_of_ble_eq_true rfl) dX7_init_40 (fun nlA H hn_nlA hP hS => ?_)
  obtain ⟨F37, eF37⟩ : ∃ Fz : ah_F, Fz = ah_up F31 nlA (ah_ai D 40 (fun _ => 0)) := ⟨_, rfl⟩
  have hP : ah_K A D F37 H := by rw [eF37]; exact hP
  have hF38 : F37 nlA = some (ah_ai D 40 (fun _ => 0)) := by rw [eF37]; exact ah_up_s _ _ _
  have ne_dA_nlA : dA ≠ nlA := ah_fr hn_nlA hF33
  have hF39 : F37 dA = some (ah_ai D 8 (fun _ => 0)) := by rw [eF37]; exact (ah_up_n _ _ (ah_fr hn_nlA hF33)).trans hF33
  have ne_tA_nlA : tA ≠ nlA := ah_fr hn_nlA hF34
  have hF40 : F37 tA = some (ah_az D 40 (fun _ => 0)) := by rw [eF37]; exact (ah_up_n _ _ (ah_fr hn_nlA hF34)).trans hF34
  have ne_lA_nlA : lA ≠ nlA := ah_fr hn_nlA hF35
  have hF41 : F37 lA = some (ah_ai D 40 (fun _ => 0)) := by rw [eF37]; exact (ah_up_n _ _ (ah_fr hn_nlA hF35)).trans hF35
  have ne_eA_nlA : eA ≠ nlA := ah_fr hn_nlA hF36
  have hF42 : F37 eA = some (ah_ai D 320 (fun _ => 0)) := by rw [eF37]; exact (ah_up_n _ _ (ah_fr hn_nlA hF36)).trans hF36
  have hF43 : F37 mo = some (.inr (7, [.int (nI 0), .ref dA, .int (nI 0), .int (nI 0), .ref tA, .ref lA, .ref eA, .null, .null, .null, .int (nI 0), .int (nI 0), .int (nI 0), .int (nI 0)])) := by rw [eF37]; exact (ah_up_n _ _ (ah_fr hn_nlA hF32)).trans hF32
  refine pf_Mod_23 E hini hP hS hF43 (Nat.le_of_ble_eq_true rfl) dX7_init_42 (fun H locs hP hS => ?_)
  obtain ⟨F44, eF44⟩ : ∃ Fz : ah_F, Fz = ah_up F37 mo (.inr (7, [.int (nI 0), .ref dA, .int (nI 0), .int (nI 0), .ref tA, .ref lA, .ref eA, .ref nlA, .null, .null, .int (nI 0), .int (nI 0), .int (nI 0), .int (nI 0)])) := ⟨_, rfl⟩
  have hP : ah_K A D F44 H := by rw [eF44]; exact hP
  have hF45 : F44 mo = some (.inr (7, [.int (nI 0), .ref dA, .int (nI 0), .int (nI 0), .ref tA, .ref lA, .ref eA, .ref nlA, .null, .null, .int (nI 0), .int (nI 0), .int (nI 0), .int (nI 0)])) := by rw [eF44]; exact ah_up_s _ _ _
  have hF46 : F44 dA = some (ah_ai D 8 (fun _ => 0)) := by rw [eF44]; exact ah_keep hF43 hF39 rfl
  have hF47 : F44 tA = some (ah_az D 40 (fun _ => 0)) := by rw [eF44]; exact ah_keep hF43 hF40 rfl
  have hF48 : F44 lA = some (ah_ai D 40 (fun _ => 0)) := by rw [eF44]; exact ah_keep hF43 hF41 rfl
  have hF49 : F44 eA = some (ah_ai D 320 (fun _ => 0)) := by rw [eF44]; exact ah_keep hF43 hF42 rfl
  have hF50 : F44 nlA = some (ah_ai D 40 (fun _ => 0)) := by rw [eF44]; exact ah_keep hF43 hF38 rfl
  refine lv_aload_n hx hb dX7_init_45 rfl (lv_at hl 0 rfl) ?_
  refine lv_sipush (v := (nI 320)) hx hb dX7_init_46 (by decide) ?_
  refine ah_newa (atype := .int) (ty := .int) (t0 := 0) (a0 := (320, .inl (fun _ => 0))) (N := 320) E hP hS rfl (fun _ h => nomatch h) rfl (ah_in 79 (by decide +kernel) rfl) (fun _ => rfl) (by decide) (Nat.le_of_ble_eq_true rfl) (Nat.le_of_ble_eq_true rfl) (Nat.le_of_ble_eq_true rfl) dX7_init_49 (fun neA H hn_neA hP hS => ?_)
  obtain ⟨F51, eF51⟩ : ∃ Fz : ah_F, Fz = ah_up F44 neA (ah_ai D 320 (fun _ => 0)) := ⟨_, rfl⟩
  have hP : ah_K A D F51 H := by rw [eF51]; exact hP
  have hF52 : F51 neA = some (ah_ai D 320 (fun _ => 0)) := by rw [eF51]; exact ah_up_s _ _ _
  have ne_dA_neA : dA ≠ neA := ah_fr hn_neA hF46
  have hF53 : F51 dA = some (ah_ai D 8 (fun _ => 0)) := by rw [eF51]; exact (ah_up_n _ _ (ah_fr hn_neA hF46)).trans hF46
  have hF54 : F51 tA = some (ah_az D 40 (fun _ => 0)) := by rw [eF51]; exact (ah_up_n _ _ (ah_fr hn_neA hF47)).trans hF47
  have ne_lA_neA : lA ≠ neA := ah_fr hn_neA hF48
  have hF55 : F51 lA = some (ah_ai D 40 (fun _ => 0)) := by rw [eF51]; exact (ah_up_n _ _ (ah_fr hn_neA hF48)).trans hF48
  have ne_eA_neA : eA ≠ neA := ah_fr hn_neA hF49
  have hF56 : F51 eA = some (ah_ai D 320 (fun _ => 0)) := by rw [eF51]; exact (ah_up_n _ _ (ah_fr hn_neA hF49)).trans hF49
  have ne_nlA_neA : nlA ≠ neA := ah_fr hn_neA hF50
  have hF57 : F51 nlA = some (ah_ai D 40 (fun _ => 0)) := by rw [eF51]; exact (ah_up_n _ _ (ah_fr hn_neA hF50)).trans hF50
  have hF58 : F51 mo = some (.inr (7, [.int (nI 0), .ref dA, .int (nI 0), .int (nI 0), .ref tA, .ref lA, .ref eA, .ref nlA, .null, .null, .int (nI 0), .int (nI 0), .int (nI 0), .int (nI 0)])) := by rw [eF51]; exact (ah_up_n _ _ (ah_fr hn_neA hF45)).trans hF45
  refine pf_Mod_26 E hini hP hS hF58 (Nat.le_of_ble_eq_true rfl) dX7_init_51 (fun H locs hP hS => ?_)
  obtain ⟨F59, eF59⟩ : ∃ Fz : ah_F, Fz = ah_up F51 mo (.inr (7, [.int (nI 0), .ref dA, .int (nI 0), .int (nI 0), .ref tA, .ref lA, .ref eA, .ref nlA, .ref neA, .null, .int (nI 0), .int (nI 0), .int (nI 0), .int (nI 0)])) := ⟨_, rfl⟩
  have hP : ah_K A D F59 H := by rw [eF59]; exact hP
  have hF60 : F59 mo = some (.inr (7, [.int (nI 0), .ref dA, .int (nI 0), .int (nI 0), .ref tA, .ref lA, .ref eA, .ref nlA, .ref neA, .null, .int (nI 0), .int (nI 0), .int (nI 0), .int (nI 0)])) := by rw [eF59]; exact ah_up_s _ _ _
  have hF61 : F59 dA = some (ah_ai D 8 (fun _ => 0)) := by rw [eF59]; exact ah_keep hF58 hF53 rfl
  have hF62 : F59 tA = some (ah_az D 40 (fun _ => 0)) := by rw [eF59]; exact ah_keep hF58 hF54 rfl
  have hF63 : F59 lA = some (ah_ai D 40 (fun _ => 0)) := by rw [eF59]; exact ah_keep hF58 hF55 rfl
  have hF64 : F59 eA = some (ah_ai D 320 (fun _ => 0)) := by rw [eF59]; exact ah_keep hF58 hF56 rfl
  have hF65 : F59 nlA = some (ah_ai D 40 (fun _ => 0)) := by rw [eF59]; exact ah_keep hF58 hF57 rfl
  have hF66 : F59 neA = some (ah_ai D 320 (fun _ => 0)) := by rw [eF59]; exact ah_keep hF58 hF52 rfl
  refine lv_aload_n hx hb dX7_init_54 rfl (lv_at hl 0 rfl) ?_
  refine lv_sipush (v := (nI 200)) hx hb dX7_init_55 (by decide) ?_
  refine ah_newa (atype := .int) (ty := .int) (t0 := 0) (a0 := (200, .inl (fun _ => 0))) (N := 200) E hP hS rfl (fun _ h => nomatch h) rfl (ah_in 79 (by decide +kernel) rfl) (fun _ => rfl) (by decide) (Nat.le_of_ble_eq_true rfl) (Nat.le_of_ble_eq_true rfl) (Nat.le_of_ble_eq_true rfl) dX7_init_58 (fun sA H hn_sA hP hS => ?_)
  obtain ⟨F67, eF67⟩ : ∃ Fz : ah_F, Fz = ah_up F59 sA (ah_ai D 200 (fun _ => 0)) := ⟨_, rfl⟩
  have hP : ah_K A D F67 H := by rw [eF67]; exact hP
  have hF68 : F67 sA = some (ah_ai D 200 (fun _ => 0)) := by rw [eF67]; exact ah_up_s _ _ _
  have hF69 : F67 dA = some (ah_ai D 8 (fun _ => 0)) := by rw [eF67]; exact (ah_up_n _ _ (ah_fr hn_sA hF61)).trans hF61
  have hF70 : F67 tA = some (ah_az D 40 (fun _ => 0)) := by rw [eF67]; exact (ah_up_n _ _ (ah_fr hn_sA hF62)).trans hF62
  have hF71 : F67 lA = some (ah_ai D 40 (fun _ => 0)) := by rw [eF67]; exact (ah_up_n _ _ (ah_fr hn_sA hF63)).trans hF63
  have hF72 : F67 eA = some (ah_ai D 320 (fun _ => 0)) := by rw [eF67]; exact (ah_up_n _ _ (ah_fr hn_sA hF64)).trans hF64
  have hF73 : F67 nlA = some (ah_ai D 40 (fun _ => 0)) := by rw [eF67]; exact (ah_up_n _ _ (ah_fr hn_sA hF65)).trans hF65
  have hF74 : F67 neA = some (ah_ai D 320 (fun _ => 0)) := by rw [eF67]; exact (ah_up_n _ _ (ah_fr hn_sA hF66)).trans hF66
  have hF75 : F67 mo = some (.inr (7, [.int (nI 0), .ref dA, .int (nI 0), .int (nI 0), .ref tA, .ref lA, .ref eA, .ref nlA, .ref neA, .null, .int (nI 0), .int (nI 0), .int (nI 0), .int (nI 0)])) := by rw [eF67]; exact (ah_up_n _ _ (ah_fr hn_sA hF60)).trans hF60
  refine pf_Mod_29 E hini hP hS hF75 (Nat.le_of_ble_eq_true rfl) dX7_init_60 (fun H locs hP hS => ?_)
  obtain ⟨F76, eF76⟩ : ∃ Fz : ah_F, Fz = ah_up F67 mo (.inr (7, [.int (nI 0), .ref dA, .int (nI 0), .int (nI 0), .ref tA, .ref lA, .ref eA, .ref nlA, .ref neA, .ref sA, .int (nI 0), .int (nI 0), .int (nI 0), .int (nI 0)])) := ⟨_, rfl⟩
  have hP : ah_K A D F76 H := by rw [eF76]; exact hP
  have hF77 : F76 mo = some (.inr (7, [.int (nI 0), .ref dA, .int (nI 0), .int (nI 0), .ref tA, .ref lA, .ref eA, .ref nlA, .ref neA, .ref sA, .int (nI 0), .int (nI 0), .int (nI 0), .int (nI 0)])) := by rw [eF76]; exact ah_up_s _ _ _
  have hF78 : F76 dA = some (ah_ai D 8 (fun _ => 0)) := by rw [eF76]; exact ah_keep hF75 hF69 rfl
  have hF79 : F76 tA = some (ah_az D 40 (fun _ => 0)) := by rw [eF76]; exact ah_keep hF75 hF70 rfl
  have hF80 : F76 lA = some (ah_ai D 40 (fun _ => 0)) := by rw [eF76]; exact ah_keep hF75 hF71 rfl
  have hF81 : F76 eA = some (ah_ai D 320 (fun _ => 0)) := by rw [eF76]; exact ah_keep hF75 hF72 rfl
  have hF82 : F76 nlA = some (ah_ai D 40 (fun _ => 0)) := by rw [eF76]; exact ah_keep hF75 hF73 rfl
  have hF83 : F76 neA = some (ah_ai D 320 (fun _ => 0)) := by rw [eF76]; exact ah_keep hF75 hF74 rfl
  have hF84 : F76 sA = some (ah_ai D 200 (fun _ => 0)) := by rw [eF76]; exact ah_keep hF75 hF68 rfl
  rw [hQ]
  exact ah_vret E hr hP hS ⟨dA, tA, lA, eA, nlA, neA, sA, nI 0, nI 0, fun _ => 0, _, _, _, _, _, _, _, hF77, hF78, hF79, hF80, hF81, hF82, hF83, hF84, ne_lA_nlA, ne_eA_neA, ne_tA_lA, ne_tA_nlA, md_L_0⟩ (Nat.le_of_ble_eq_true rfl) (Nat.le_of_ble_eq_true rfl) dX7_init_63

set_option maxHeartbeats 4000000 in
set_option maxRecDepth 100000 in
/-- thrown -/
theorem m_thrown (l : Launch) (A : Nat → Prop) (D : ah_G) (F : ah_F) {mo dA tA lA eA nlA neA sA n : Nat} {P : ah_Pt} {dr S : List Nat} {td th ip il : Int32} {ln : Nat → Nat} {df tf lf ef nlf nef sf : Nat → Int32} (hmo : F mo = some (.inr (7, [.int th, .ref dA, .int (nI dr.length), .int (nI n), .ref tA, .ref lA, .ref eA, .ref nlA, .ref neA, .ref sA, .int (nI S.length), .int td, .int ip, .int il]))) (hdA : F dA = some (ah_ai D 8 df)) (htA : F tA = some (ah_az D 40 tf)) (hlA : F lA = some (ah_ai D 40 lf)) (heA : F eA = some (ah_ai D 320 ef)) (hnlA : F nlA = some (ah_ai D 40 nlf)) (hneA : F neA = some (ah_ai D 320 nef)) (hsA : F sA = some (ah_ai D 200 sf)) (hL : md_L P n dr S ln df tf lf ef nlf nef sf)  : Met l yX7_thrown (Cond.code yX7_thrown cX7_thrown 1 (some .int) :: ah_T) { frames := 0, cells := 0, slots := 0, locals := 0 } (va_Pc [.ref mo] (ah_B A D F)) (ah_Qi A D (fun (r : Int32) F1 => F = F1 ∧ th = r)) 0 0 A := by
  refine ah_met (own := "AhoarchModel") (by decide) rfl (Nat.le_of_ble_eq_true rfl) ?_
  intro p e s m below meth c ls E hr hini hl hP hS Q hQ
  have hx := E.1
  have hb := E.2.1
  have hl : lv_has ls 1 [(0, .ref mo)] := hl
  obtain ⟨hn40, hPn, hdok, hSl, hS200, hPok, hdis, hp20, hln, hlP, hdd, hss⟩ := id hL
  have hdl := hdok.1
  refine lv_aload_n hx hb dX7_thrown_0 rfl (lv_at hl 0 rfl) ?_
  refine gf_Mod_32 E hP hmo rfl dX7_thrown_1 ?_
  rw [hQ]
  exact ah_iret E hr hP hS ⟨rfl, rfl⟩ (Nat.le_of_ble_eq_true rfl) (Nat.le_of_ble_eq_true rfl) dX7_thrown_4

set_option maxHeartbeats 4000000 in
set_option maxRecDepth 100000 in
/-- holds -/
theorem m_holds (l : Launch) (A : Nat → Prop) (D : ah_G) (F : ah_F) {mo dA tA lA eA nlA neA sA n : Nat} {P : ah_Pt} {dr S : List Nat} {td th ip il : Int32} {ln : Nat → Nat} {df tf lf ef nlf nef sf : Nat → Int32} (hmo : F mo = some (.inr (7, [.int th, .ref dA, .int (nI dr.length), .int (nI n), .ref tA, .ref lA, .ref eA, .ref nlA, .ref neA, .ref sA, .int (nI S.length), .int td, .int ip, .int il]))) (hdA : F dA = some (ah_ai D 8 df)) (htA : F tA = some (ah_az D 40 tf)) (hlA : F lA = some (ah_ai D 40 lf)) (heA : F eA = some (ah_ai D 320 ef)) (hnlA : F nlA = some (ah_ai D 40 nlf)) (hneA : F neA = some (ah_ai D 320 nef)) (hsA : F sA = some (ah_ai D 200 sf)) (hL : md_L P n dr S ln df tf lf ef nlf nef sf) {k : Nat} (hk : k < 2 ^ 31) : Met l yX7_holds (Cond.code yX7_holds cX7_holds 2 (some .boolean) :: ah_T) { frames := 0, cells := 0, slots := 0, locals := 0 } (va_Pc [.ref mo, .int (nI k)] (ah_B A D F)) (ah_Qi A D (fun (r : Int32) F1 => F1 = ah_up F mo (.inr (7, [.int (nI k), .ref dA, .int (nI dr.length), .int (nI n), .ref tA, .ref lA, .ref eA, .ref nlA, .ref neA, .ref sA, .int (nI S.length), .int td, .int ip, .int il])) ∧ bI_ (decide (k = 0)) = r)) 0 0 A := by
  refine ah_met (own := "AhoarchModel") (by decide) rfl (Nat.le_of_ble_eq_true rfl) ?_
  intro p e s m below meth c ls E hr hini hl hP hS Q hQ
  have hx := E.1
  have hb := E.2.1
  have hl : lv_has ls 2 [(0, .ref mo), (1, .int (nI k))] := hl
  refine lv_aload_n hx hb dX7_holds_0 rfl (lv_at hl 0 rfl) ?_
  refine lv_iload_n hx hb dX7_holds_1 rfl (lv_at hl 1 rfl) ?_
  refine pf_Mod_32 E hP hS hmo (Nat.le_of_ble_eq_true rfl) dX7_holds_2 (fun H locs hP hS => ?_)
  obtain ⟨F1, eF1⟩ : ∃ Fz : ah_F, Fz = ah_up F mo (.inr (7, [.int (nI k), .ref dA, .int (nI dr.length), .int (nI n), .ref tA, .ref lA, .ref eA, .ref nlA, .ref neA, .ref sA, .int (nI S.length), .int td, .int ip, .int il])) := ⟨_, rfl⟩
  have hP : ah_K A D F1 H := by rw [eF1]; exact hP
  have hF2 : F1 mo = some (.inr (7, [.int (nI k), .ref dA, .int (nI dr.length), .int (nI n), .ref tA, .ref lA, .ref eA, .ref nlA, .ref neA, .ref sA, .int (nI S.length), .int td, .int ip, .int il])) := by rw [eF1]; exact ah_up_s _ _ _
  have hF3 : F1 dA = some (ah_ai D 8 df) := by rw [eF1]; exact ah_keep hmo hdA rfl
  have hF4 : F1 tA = some (ah_az D 40 tf) := by rw [eF1]; exact ah_keep hmo htA rfl
  have hF5 : F1 lA = some (ah_ai D 40 lf) := by rw [eF1]; exact ah_keep hmo hlA rfl
  have hF6 : F1 eA = some (ah_ai D 320 ef) := by rw [eF1]; exact ah_keep hmo heA rfl
  have hF7 : F1 nlA = some (ah_ai D 40 nlf) := by rw [eF1]; exact ah_keep hmo hnlA rfl
  have hF8 : F1 neA = some (ah_ai D 320 nef) := by rw [eF1]; exact ah_keep hmo hneA rfl
  have hF9 : F1 sA = some (ah_ai D 200 sf) := by rw [eF1]; exact ah_keep hmo hsA rfl
  refine lv_iload_n hx hb dX7_holds_5 rfl (lv_at hl 1 rfl) ?_
  refine ah_if_ne (tgt := 13) hx hb (by omega) dX7_holds_6 (by decide) (fun hc6 => ?_) (fun hc6 => ?_)
  · skip
    refine lv_iconst (v := (nI 0)) hx hb dX7_holds_13 (by decide) ?_
    rw [hQ]
    exact ah_zret E hr (by first | exact bI_nz _ | decide) hP hS ⟨eF1, by rw [decide_eq_false (by omega)]; rfl⟩ (Nat.le_of_ble_eq_true rfl) (Nat.le_of_ble_eq_true rfl) dX7_holds_14
  · skip
    refine lv_iconst (v := (nI 1)) hx hb dX7_holds_9 (by decide) ?_
    refine lv_goto (tgt := 14) hx hb dX7_holds_10 (by decide) ?_
    rw [hQ]
    exact ah_zret E hr (by first | exact bI_nz _ | decide) hP hS ⟨eF1, by rw [hc6]; rfl⟩ (Nat.le_of_ble_eq_true rfl) (Nat.le_of_ble_eq_true rfl) dX7_holds_14

set_option maxHeartbeats 4000000 in
set_option maxRecDepth 100000 in
/-- isLetter -/
theorem m_isLetter (l : Launch) (A : Nat → Prop) (D : ah_G) (F : ah_F) {cv : Nat} (hcv : cv < 65536) : Met l yX7_isLetter (Cond.code yX7_isLetter cX7_isLetter 1 (some .boolean) :: ah_T) { frames := 0, cells := 0, slots := 0, locals := 0 } (va_Pc [.int (nI cv)] (ah_B A D F)) (ah_Qi A D (fun (r : Int32) F1 => F = F1 ∧ bI_ (decide (97 ≤ cv ∧ cv ≤ 122)) = r)) 0 0 A := by
  refine ah_met (own := "AhoarchModel") (by decide) rfl (Nat.le_of_ble_eq_true rfl) ?_
  intro p e s m below meth c ls E hr hini hl hP hS Q hQ
  have hx := E.1
  have hb := E.2.1
  have hl : lv_has ls 1 [(0, .int (nI cv))] := hl
  refine lv_iload_n hx hb dX7_isLetter_0 rfl (lv_at hl 0 rfl) ?_
  refine lv_bipush (v := (nI 97)) hx hb dX7_isLetter_1 (by decide) ?_
  refine ah_icmp_lt (tgt := 16) hx hb (by omega) (by omega) dX7_isLetter_3 (by decide) (fun hc3 => ?_) (fun hc3 => ?_)
  · skip
    refine lv_iconst (v := (nI 0)) hx hb dX7_isLetter_16 (by decide) ?_
    rw [hQ]
    exact ah_zret E hr (by first | exact bI_nz _ | decide) hP hS ⟨rfl, by rw [decide_eq_false (by omega)]; rfl⟩ (Nat.le_of_ble_eq_true rfl) (Nat.le_of_ble_eq_true rfl) dX7_isLetter_17
  · skip
    refine lv_iload_n hx hb dX7_isLetter_6 rfl (lv_at hl 0 rfl) ?_
    refine lv_bipush (v := (nI 122)) hx hb dX7_isLetter_7 (by decide) ?_
    refine ah_icmp_gt (tgt := 16) hx hb (by omega) (by omega) dX7_isLetter_9 (by decide) (fun hc9 => ?_) (fun hc9 => ?_)
    · skip
      refine lv_iconst (v := (nI 0)) hx hb dX7_isLetter_16 (by decide) ?_
      rw [hQ]
      exact ah_zret E hr (by first | exact bI_nz _ | decide) hP hS ⟨rfl, by rw [decide_eq_false (by omega)]; rfl⟩ (Nat.le_of_ble_eq_true rfl) (Nat.le_of_ble_eq_true rfl) dX7_isLetter_17
    · skip
      refine lv_iconst (v := (nI 1)) hx hb dX7_isLetter_12 (by decide) ?_
      refine lv_goto (tgt := 17) hx hb dX7_isLetter_13 (by decide) ?_
      rw [hQ]
      exact ah_zret E hr (by first | exact bI_nz _ | decide) hP hS ⟨rfl, by rw [decide_eq_true (by omega)]; rfl⟩ (Nat.le_of_ble_eq_true rfl) (Nat.le_of_ble_eq_true rfl) dX7_isLetter_17

set_option maxHeartbeats 4000000 in
set_option maxRecDepth 100000 in
/-- isPattern -/
theorem m_isPattern (l : Launch) (A : Nat → Prop) (D : ah_G) (F : ah_F) {mo dA tA lA eA nlA neA sA n : Nat} {P : ah_Pt} {dr S : List Nat} {td th ip il : Int32} {ln : Nat → Nat} {df tf lf ef nlf nef sf : Nat → Int32} (hmo : F mo = some (.inr (7, [.int th, .ref dA, .int (nI dr.length), .int (nI n), .ref tA, .ref lA, .ref eA, .ref nlA, .ref neA, .ref sA, .int (nI S.length), .int td, .int ip, .int il]))) (hdA : F dA = some (ah_ai D 8 df)) (htA : F tA = some (ah_az D 40 tf)) (hlA : F lA = some (ah_ai D 40 lf)) (heA : F eA = some (ah_ai D 320 ef)) (hnlA : F nlA = some (ah_ai D 40 nlf)) (hneA : F neA = some (ah_ai D 320 nef)) (hsA : F sA = some (ah_ai D 200 sf)) (hL : md_L P n dr S ln df tf lf ef nlf nef sf) {v0 : Int32} : Met l yX7_isPattern (Cond.code yX7_isPattern cX7_isPattern 2 (some .boolean) :: ah_T) { frames := 0, cells := 0, slots := 0, locals := 0 } (va_Pc [.ref mo, .int v0] (ah_B A D F)) (ah_Qi A D (fun (r : Int32) F1 => F = F1 ∧ bI_ (ah_pi P v0).isSome = r)) 0 0 A := by
  refine ah_met (own := "AhoarchModel") (by decide) rfl (Nat.le_of_ble_eq_true rfl) ?_
  intro p e s m below meth c ls E hr hini hl hP hS Q hQ
  have hx := E.1
  have hb := E.2.1
  have hl : lv_has ls 2 [(0, .ref mo), (1, .int v0)] := hl
  obtain ⟨hn40, hPn, hdok, hSl, hS200, hPok, hdis, hp20, hln, hlP, hdd, hss⟩ := id hL
  have hdl := hdok.1
  refine lv_iload_n hx hb dX7_isPattern_0 rfl (lv_at hl 1 rfl) ?_
  refine lv_if_lt (tgt := 25) hx hb dX7_isPattern_1 (by decide) (fun hc1 => ?_) (fun hc1 => ?_)
  · skip
    refine lv_iconst (v := (nI 0)) hx hb dX7_isPattern_25 (by decide) ?_
    rw [hQ]
    exact ah_zret E hr (by first | exact bI_nz _ | decide) hP hS ⟨rfl, by rw [ah_pi_neg hc1]; rfl⟩ (Nat.le_of_ble_eq_true rfl) (Nat.le_of_ble_eq_true rfl) dX7_isPattern_26
  · skip
    refine lv_iload_n hx hb dX7_isPattern_4 rfl (lv_at hl 1 rfl) ?_
    refine lv_aload_n hx hb dX7_isPattern_5 rfl (lv_at hl 0 rfl) ?_
    refine gf_Mod_36 E hP hmo rfl dX7_isPattern_6 ?_
    refine lv_icmp_ge (tgt := 25) hx hb dX7_isPattern_9 (by decide) (fun hc9 => ?_) (fun hc9 => ?_)
    · skip
      refine lv_iconst (v := (nI 0)) hx hb dX7_isPattern_25 (by decide) ?_
      rw [hQ]
      exact ah_zret E hr (by first | exact bI_nz _ | decide) hP hS ⟨rfl, by rw [ah_pi_ge hn40 hPn hc9]; rfl⟩ (Nat.le_of_ble_eq_true rfl) (Nat.le_of_ble_eq_true rfl) dX7_isPattern_26
    · skip
      obtain ⟨i, hi, rfl⟩ : ∃ i : Nat, i < n ∧ v0 = nI i := by
        rcases pk_ix v0 (n := n) (by omega) with h | h | h
        · exact absurd h hc1
        · exact absurd h hc9
        · exact h
      obtain ⟨hl8, hlf, htf⟩ := hln i hi
      refine lv_aload_n hx hb dX7_isPattern_12 rfl (lv_at hl 0 rfl) ?_
      refine gf_Mod_13 E hP hmo rfl dX7_isPattern_13 ?_
      refine lv_iload_n hx hb dX7_isPattern_16 rfl (lv_at hl 1 rfl) ?_
      have hi40 : i < 40 := by omega
      refine ah_zald E hP htA (by omega) (by omega) dX7_isPattern_17 ?_
      rw [htf]
      refine ah_ifb_eq (tgt := 25) hx hb dX7_isPattern_18 (by decide) (fun hc18 => ?_) (fun hc18 => ?_)
      · skip
        refine lv_iconst (v := (nI 0)) hx hb dX7_isPattern_25 (by decide) ?_
        rw [hQ]
        exact ah_zret E hr (by first | exact bI_nz _ | decide) hP hS ⟨rfl, by rw [ah_pi_no hi40 hc18]; rfl⟩ (Nat.le_of_ble_eq_true rfl) (Nat.le_of_ble_eq_true rfl) dX7_isPattern_26
      · skip
        refine lv_iconst (v := (nI 1)) hx hb dX7_isPattern_21 (by decide) ?_
        refine lv_goto (tgt := 26) hx hb dX7_isPattern_22 (by decide) ?_
        rw [hQ]
        exact ah_zret E hr (by first | exact bI_nz _ | decide) hP hS ⟨rfl, by rw [ah_pi_of rfl hi40 hc18]; rfl⟩ (Nat.le_of_ble_eq_true rfl) (Nat.le_of_ble_eq_true rfl) dX7_isPattern_26

set_option maxHeartbeats 4000000 in
set_option maxRecDepth 100000 in
/-- patternsNow -/
theorem m_patternsNow (l : Launch) (A : Nat → Prop) (D : ah_G) (F : ah_F) {mo dA tA lA eA nlA neA sA n : Nat} {P : ah_Pt} {dr S : List Nat} {td th ip il : Int32} {ln : Nat → Nat} {df tf lf ef nlf nef sf : Nat → Int32} (hmo : F mo = some (.inr (7, [.int th, .ref dA, .int (nI dr.length), .int (nI n), .ref tA, .ref lA, .ref eA, .ref nlA, .ref neA, .ref sA, .int (nI S.length), .int td, .int ip, .int il]))) (hdA : F dA = some (ah_ai D 8 df)) (htA : F tA = some (ah_az D 40 tf)) (hlA : F lA = some (ah_ai D 40 lf)) (heA : F eA = some (ah_ai D 320 ef)) (hnlA : F nlA = some (ah_ai D 40 nlf)) (hneA : F neA = some (ah_ai D 320 nef)) (hsA : F sA = some (ah_ai D 200 sf)) (hL : md_L P n dr S ln df tf lf ef nlf nef sf)  : Met l yX7_patternsNow (Cond.code yX7_patternsNow cX7_patternsNow 3 (some .int) :: ah_T) { frames := 0, cells := 0, slots := 0, locals := 0 } (va_Pc [.ref mo] (ah_B A D F)) (ah_Qi A D (fun (r : Int32) F1 => F = F1 ∧ nI (pu_cn (fun i => (P i).isSome) 40) = r)) 0 0 A := by
  refine ah_met (own := "AhoarchModel") (by decide) rfl (Nat.le_of_ble_eq_true rfl) ?_
  intro p e s m below meth c ls E hr hini hl hP hS Q hQ
  have hx := E.1
  have hb := E.2.1
  have hl : lv_has ls 3 [(0, .ref mo)] := hl
  obtain ⟨hn40, hPn, hdok, hSl, hS200, hPok, hdis, hp20, hln, hlP, hdd, hss⟩ := id hL
  have hdl := hdok.1
  refine lv_iconst (v := (nI 0)) hx hb dX7_patternsNow_0 (by decide) ?_
  refine lv_istore_n (lv' := [(1, .int (nI 0)), (0, .ref mo)]) hx hb dX7_patternsNow_1 rfl hl (by decide) rfl (fun ls hl => ?_)
  refine lv_iconst (v := (nI 0)) hx hb dX7_patternsNow_2 (by decide) ?_
  refine lv_istore_n (lv' := [(2, .int (nI 0)), (1, .int (nI 0)), (0, .ref mo)]) hx hb dX7_patternsNow_3 rfl hl (by decide) rfl (fun ls hl => ?_)
  have L4 : ∀ (fuel : Nat), ∀ (k a : Nat), n - k < fuel → k ≤ n → a = pu_cn (fun i => (P i).isSome) k → ∀ (H : Heap) (locs : List Loc), ah_K A D F H → va_S A s.heap H locs → ∀ (ls : Array Slot), lv_has ls 3 [(0, .ref mo), (1, .int (nI a)), (2, .int (nI k))] → W p l e { frames := 0, cells := 0, slots := 0, locals := 0 } s m [.ref mo].toArray below meth c H locs 0 0 Q (F0 m 4 ls []) := by
    intro fuel
    induction fuel with
    | zero =>
      intro k a hm
      exact absurd hm (Nat.not_lt_zero _)
    | succ fuel ih =>
      intro k a hm hk ha H locs hP hS ls hl
      have hak := pu_cn_le (fun i => (P i).isSome) k
      refine lv_iload_n hx hb dX7_patternsNow_4 rfl (lv_at hl 2 rfl) ?_
      refine lv_aload_n hx hb dX7_patternsNow_5 rfl (lv_at hl 0 rfl) ?_
      refine gf_Mod_36 E hP hmo rfl dX7_patternsNow_6 ?_
      refine ah_icmp_ge (tgt := 35) hx hb (by omega) (by omega) dX7_patternsNow_9 (by decide) (fun hc9 => ?_) (fun hc9 => ?_)
      · skip
        refine lv_iload_n hx hb dX7_patternsNow_35 rfl (lv_at hl 1 rfl) ?_
        rw [hQ]
        exact ah_iret E hr hP hS ⟨rfl, by rw [ha, show k = n by omega, pu_cn_off hn40 (fun i hi => by rw [hPn i hi]; rfl)]⟩ (Nat.le_of_ble_eq_true rfl) (Nat.le_of_ble_eq_true rfl) dX7_patternsNow_36
      · skip
        obtain ⟨hl8, hlf, htf⟩ := hln k (by omega)
        refine lv_iload_n hx hb dX7_patternsNow_12 rfl (lv_at hl 1 rfl) ?_
        refine lv_aload_n hx hb dX7_patternsNow_13 rfl (lv_at hl 0 rfl) ?_
        refine gf_Mod_13 E hP hmo rfl dX7_patternsNow_14 ?_
        refine lv_iload_n hx hb dX7_patternsNow_17 rfl (lv_at hl 2 rfl) ?_
        refine ah_zald E hP htA (by omega) (by omega) dX7_patternsNow_18 ?_
        rw [htf]
        refine ah_ifb_eq (tgt := 26) hx hb dX7_patternsNow_19 (by decide) (fun hc19 => ?_) (fun hc19 => ?_)
        · skip
          refine lv_iconst (v := (nI 0)) hx hb dX7_patternsNow_26 (by decide) ?_
          refine ah_iadd hx hb dX7_patternsNow_27 ?_
          refine lv_istore_n (lv' := [(1, .int (nI (a + 0))), (0, .ref mo), (2, .int (nI k))]) hx hb dX7_patternsNow_28 rfl hl (by decide) rfl (fun ls hl => ?_)
          refine lv_iinc (v := (nI (k + 1))) (lv' := [(2, .int (nI (k + 1))), (1, .int (nI (a + 0))), (0, .ref mo)]) hx hb dX7_patternsNow_29 hl (k := 2) rfl (ah_inc _) (by decide) rfl (fun ls hl => ?_)
          refine lv_goto (tgt := 4) hx hb dX7_patternsNow_32 (by decide) ?_
          exact ih (k + 1) _ (by omega) (by omega) (by rw [pu_cn_f hc19]; exact ha) _ _ hP hS ls (lv_sub hl [2, 1, 0] rfl)
        · skip
          refine lv_iconst (v := (nI 1)) hx hb dX7_patternsNow_22 (by decide) ?_
          refine lv_goto (tgt := 27) hx hb dX7_patternsNow_23 (by decide) ?_
          refine ah_iadd hx hb dX7_patternsNow_27 ?_
          refine lv_istore_n (lv' := [(1, .int (nI (a + 1))), (0, .ref mo), (2, .int (nI k))]) hx hb dX7_patternsNow_28 rfl hl (by decide) rfl (fun ls hl => ?_)
          refine lv_iinc (v := (nI (k + 1))) (lv' := [(2, .int (nI (k + 1))), (1, .int (nI (a + 1))), (0, .ref mo)]) hx hb dX7_patternsNow_29 hl (k := 2) rfl (ah_inc _) (by decide) rfl (fun ls hl => ?_)
          refine lv_goto (tgt := 4) hx hb dX7_patternsNow_32 (by decide) ?_
          exact ih (k + 1) _ (by omega) (by omega) (by rw [pu_cn_t hc19]; rw [ha]) _ _ hP hS ls (lv_sub hl [2, 1, 0] rfl)
  exact L4 (n + 1) 0 0 (by omega) (by omega) rfl _ _ hP hS ls (lv_sub hl [2, 1, 0] rfl)
