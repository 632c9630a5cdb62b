def md_tn (b : Bool) : Nat := if b then 0 else 1
theorem md_none {α : Type} {o : Option α} (h : o.isSome = false) : o = none := by
  cases o with
  | none => rfl
  | some q => cases h
theorem md_lt {P : ah_Pt} {n i : Nat} (hP : ∀ i, n ≤ i → P i = none) (h : (P i).isSome = true) : i < n := by
  rcases Nat.lt_or_ge i n with h1 | h1
  · exact h1
  · rw [hP i h1] at h; cases h
theorem md_L_clr {P : ah_Pt} {n : Nat} {dr S : List Nat} {ln : Nat → Nat} {df tf lf ef nlf nef sf : Nat → Int32} (h : md_L P n dr S ln df tf lf ef nlf nef sf) : md_L P n dr [] ln df tf lf ef nlf nef sf := by
  obtain ⟨h1, h2, h3, h4, h5, h6, h7, h8, h9, h10, h11, h12⟩ := h
  exact ⟨h1, h2, h3, fun z hz => by simp at hz, Nat.zero_le _, h6, h7, h8, h9, h10, h11, fun k hk => absurd hk (Nat.not_lt_zero k)⟩
set_option maxHeartbeats 4000000 in
set_option maxRecDepth 100000 in
/-- isAsked -/
theorem m_isAsked (l : Launch) (A : Nat → Prop) (D : ah_G) (F : ah_F) {mo dA tA lA eA nlA neA sA n : Nat} {P : ah_Pt} {dr S : List Nat} {td th ip il : Int32} {ln : Nat → Nat} {df tf lf ef nlf nef sf : Nat → Int32} (hmo : F mo = some (.inr (7, [.int th, .ref dA, .int (nI dr.length), .int (nI n), .ref tA, .ref lA, .ref eA, .ref nlA, .ref neA, .ref sA, .int (nI S.length), .int td, .int ip, .int il]))) (hdA : F dA = some (ah_ai D 8 df)) (htA : F tA = some (ah_az D 40 tf)) (hlA : F lA = some (ah_ai D 40 lf)) (heA : F eA = some (ah_ai D 320 ef)) (hnlA : F nlA = some (ah_ai D 40 nlf)) (hneA : F neA = some (ah_ai D 320 nef)) (hsA : F sA = some (ah_ai D 200 sf)) (hL : md_L P n dr S ln df tf lf ef nlf nef sf) {v0 : Int32} : Met l yX7_isAsked (Cond.code yX7_isAsked cX7_isAsked 2 (some .boolean) :: ah_T) { frames := 1, cells := 0, slots := 0, locals := 21 } (va_Pc [.ref mo, .int v0] (ah_B A D F)) (ah_Qi A D (fun (r : Int32) F1 => F1 = ah_up F mo (.inr (7, [.int (nI (md_tn (ah_pi P v0).isSome)), .ref dA, .int (nI dr.length), .int (nI n), .ref tA, .ref lA, .ref eA, .ref nlA, .ref neA, .ref sA, .int (nI S.length), .int td, .int ip, .int il])) ∧ bI_ (ah_pi P v0).isSome = r)) 0 0 A := by
  refine ah_met (own := "AhoarchModel") (by decide) rfl (Nat.le_of_ble_eq_true rfl) ?_
  intro p e s m below meth c ls E hr hini hl hP hS Q hQ
  have hx := E.1
  have hb := E.2.1
  have hl : lv_has ls 2 [(0, .ref mo), (1, .int v0)] := hl
  obtain ⟨hn40, hPn, hdok, hSl, hS200, hPok, hdis, hp20, hln, hlP, hdd, hss⟩ := id hL
  have hdl := hdok.1
  refine lv_aload_n hx hb dX7_isAsked_0 rfl (lv_at hl 0 rfl) ?_
  refine lv_aload_n hx hb dX7_isAsked_1 rfl (lv_at hl 0 rfl) ?_
  refine lv_iload_n hx hb dX7_isAsked_2 rfl (lv_at hl 1 rfl) ?_
  refine ah_calli (ah_runV E hP hS (As := [.int v0]) (rest := [.ref mo]) (b := mo) (m_isPattern l A D _ hmo hdA htA hlA heA hnlA hneA hsA hL (v0 := v0)) lk_Mod_57 li_Mod_57 hmo rfl ⟨rfl, rfl, (Nat.le_of_ble_eq_true rfl), (Nat.le_of_ble_eq_true rfl)⟩ rfl hl.1 rfl (Nat.le_of_ble_eq_true rfl) dX7_isAsked_3 ⟨(Nat.le_of_ble_eq_true rfl), (Nat.le_of_ble_eq_true rfl)⟩) hS (fun r F1 H locs hq hP hS => ?_)
  obtain ⟨rfl, rfl⟩ := hq
  refine ah_ifb_eq (tgt := 13) hx hb dX7_isAsked_6 (by decide) (fun hc6 => ?_) (fun hc6 => ?_)
  · skip
    refine lv_iconst (v := (nI 1)) hx hb dX7_isAsked_13 (by decide) ?_
    refine ah_calli (ah_runV E hP hS (As := [.int (nI 1)]) (rest := []) (b := mo) (m_holds l A D _ hmo hdA htA hlA heA hnlA hneA hsA hL (k := 1) (by omega)) lk_Mod_46 li_Mod_46 hmo rfl ⟨rfl, rfl, (Nat.le_of_ble_eq_true rfl), (Nat.le_of_ble_eq_true rfl)⟩ rfl hl.1 rfl (Nat.le_of_ble_eq_true rfl) dX7_isAsked_14 ⟨(Nat.le_of_ble_eq_true rfl), (Nat.le_of_ble_eq_true rfl)⟩) hS (fun r F2 H locs hho hP hS => ?_)
    obtain ⟨eho, hro⟩ := hho
    subst hro
    rw [hQ]
    exact ah_zret E hr (bI_nz _) hP hS ⟨by rw [eho, hc6]; rfl, by rw [hc6]; rfl⟩ (Nat.le_of_ble_eq_true rfl) (Nat.le_of_ble_eq_true rfl) dX7_isAsked_17
  · skip
    refine lv_iconst (v := (nI 0)) hx hb dX7_isAsked_9 (by decide) ?_
    refine lv_goto (tgt := 14) hx hb dX7_isAsked_10 (by decide) ?_
    refine ah_calli (ah_runV E hP hS (As := [.int (nI 0)]) (rest := []) (b := mo) (m_holds l A D _ hmo hdA htA hlA heA hnlA hneA hsA hL (k := 0) (by omega)) lk_Mod_46 li_Mod_46 hmo rfl ⟨rfl, rfl, (Nat.le_of_ble_eq_true rfl), (Nat.le_of_ble_eq_true rfl)⟩ rfl hl.1 rfl (Nat.le_of_ble_eq_true rfl) dX7_isAsked_14 ⟨(Nat.le_of_ble_eq_true rfl), (Nat.le_of_ble_eq_true rfl)⟩) hS (fun r F3 H locs hho hP hS => ?_)
    obtain ⟨eho, hro⟩ := hho
    subst hro
    rw [hQ]
    exact ah_zret E hr (bI_nz _) hP hS ⟨by rw [eho, hc6]; rfl, by rw [hc6]; rfl⟩ (Nat.le_of_ble_eq_true rfl) (Nat.le_of_ble_eq_true rfl) dX7_isAsked_17

set_option maxHeartbeats 4000000 in
set_option maxRecDepth 100000 in
/-- isRule -/
theorem m_isRule (l : Launch) (A : Nat → Prop) (D : ah_G) (F : ah_F) {v0 : Int32} {mo : Nat} {fs : List Value} (hmo : F mo = some (.inr (7, fs))) : Met l yX7_isRule (Cond.code yX7_isRule cX7_isRule 2 (some .boolean) :: ah_T) { frames := 0, cells := 0, slots := 0, locals := 0 } (va_Pc [.ref mo, .int v0] (ah_B A D F)) (ah_Qi A D (fun (r : Int32) F1 => F = F1 ∧ bI_ (ah_rul v0).isSome = r)) 0 0 A := by
  refine ah_met (own := "AhoarchModel") (by decide) rfl (Nat.le_of_ble_eq_true rfl) ?_
  intro p e s m below meth c ls E hr hini hl hP hS Q hQ
  have hx := E.1
  have hb := E.2.1
  have hl : lv_has ls 2 [(0, .ref mo), (1, .int v0)] := hl
  refine lv_iload_n hx hb dX7_isRule_0 rfl (lv_at hl 1 rfl) ?_
  refine lv_if_lt (tgt := 13) hx hb dX7_isRule_1 (by decide) (fun hc1 => ?_) (fun hc1 => ?_)
  · skip
    refine lv_iconst (v := (nI 0)) hx hb dX7_isRule_13 (by decide) ?_
    rw [hQ]
    exact ah_zret E hr (by first | exact bI_nz _ | decide) hP hS ⟨rfl, by rw [ah_rul_n (fun ru h1 h2 => by subst h2; exact nI_pos (by omega) hc1)]; rfl⟩ (Nat.le_of_ble_eq_true rfl) (Nat.le_of_ble_eq_true rfl) dX7_isRule_14
  · skip
    refine lv_iload_n hx hb dX7_isRule_4 rfl (lv_at hl 1 rfl) ?_
    refine lv_iconst (v := (nI 2)) hx hb dX7_isRule_5 (by decide) ?_
    refine lv_icmp_gt (tgt := 13) hx hb dX7_isRule_6 (by decide) (fun hc6 => ?_) (fun hc6 => ?_)
    · skip
      refine lv_iconst (v := (nI 0)) hx hb dX7_isRule_13 (by decide) ?_
      rw [hQ]
      exact ah_zret E hr (by first | exact bI_nz _ | decide) hP hS ⟨rfl, by rw [ah_rul_n (fun ru h1 h2 => by subst h2; exact (Int32.not_le.mpr hc6) (nI_le h1 (by omega)))]; rfl⟩ (Nat.le_of_ble_eq_true rfl) (Nat.le_of_ble_eq_true rfl) dX7_isRule_14
    · skip
      obtain ⟨ru, hru, hrv⟩ := ah_rule hc1 (Int32.not_lt.mp hc6)
      refine lv_iconst (v := (nI 1)) hx hb dX7_isRule_9 (by decide) ?_
      refine lv_goto (tgt := 14) hx hb dX7_isRule_10 (by decide) ?_
      rw [hQ]
      exact ah_zret E hr (by first | exact bI_nz _ | decide) hP hS ⟨rfl, by rw [ah_rul_s hru hrv]; rfl⟩ (Nat.le_of_ble_eq_true rfl) (Nat.le_of_ble_eq_true rfl) dX7_isRule_14

set_option maxHeartbeats 4000000 in
set_option maxRecDepth 100000 in
/-- streamLength -/
theorem m_streamLength (l : Launch) (A : Nat → Prop) (D : ah_G) (F : ah_F) {mo n : Nat} {P : ah_Pt} {dr S : List Nat} {td th : Int32} (hC : md_C D F mo P n dr S td th)  : Met l yX7_streamLength (Cond.code yX7_streamLength cX7_streamLength 1 (some .int) :: ah_T) { frames := 0, cells := 0, slots := 0, locals := 0 } (va_Pc [.ref mo] (ah_B A D F)) (ah_Qi A D (fun (r : Int32) F1 => md_An D F1 mo (0, nI S.length, (P, n, dr, S, td)) r)) 0 0 A := by
  refine ah_met (own := "AhoarchModel") (by decide) rfl (Nat.le_of_ble_eq_true rfl) ?_
  intro p e s m below meth c ls E hr hini hl hP hS Q hQ
  have hx := E.1
  have hb := E.2.1
  have hl : lv_has ls 1 [(0, .ref mo)] := hl
  obtain ⟨dA, tA, lA, eA, nlA, neA, sA, ip, il, ln, df, tf, lf, ef, nlf, nef, sf, hmo, hdA, htA, hlA, heA, hnlA, hneA, hsA, hne1, hne2, hne3, hne4, hL⟩ := id hC
  obtain ⟨hn40, hPn, hdok, hSl, hS200, hPok, hdis, hp20, hln, hlP, hdd, hss⟩ := id hL
  have hdl := hdok.1
  refine lv_aload_n hx hb dX7_streamLength_0 rfl (lv_at hl 0 rfl) ?_
  refine lv_iconst (v := (nI 0)) hx hb dX7_streamLength_1 (by decide) ?_
  refine pf_Mod_32 E hP hS hmo (Nat.le_of_ble_eq_true rfl) dX7_streamLength_2 (fun H locs hP hS => ?_)
  obtain ⟨F1, eF1⟩ : ∃ Fz : ah_F, Fz = ah_up F mo (.inr (7, [.int (nI 0), .ref dA, .int (nI dr.length), .int (nI n), .ref tA, .ref lA, .ref eA, .ref nlA, .ref neA, .ref sA, .int (nI S.length), .int td, .int ip, .int il])) := ⟨_, rfl⟩
  have hP : ah_K A D F1 H := by rw [eF1]; exact hP
  have hF2 : F1 mo = some (.inr (7, [.int (nI 0), .ref dA, .int (nI dr.length), .int (nI n), .ref tA, .ref lA, .ref eA, .ref nlA, .ref neA, .ref sA, .int (nI S.length), .int td, .int ip, .int il])) := by rw [eF1]; exact ah_up_s _ _ _
  have hF3 : F1 dA = some (ah_ai D 8 df) := by rw [eF1]; exact ah_keep hmo hdA rfl
  have hF4 : F1 tA = some (ah_az D 40 tf) := by rw [eF1]; exact ah_keep hmo htA rfl
  have hF5 : F1 lA = some (ah_ai D 40 lf) := by rw [eF1]; exact ah_keep hmo hlA rfl
  have hF6 : F1 eA = some (ah_ai D 320 ef) := by rw [eF1]; exact ah_keep hmo heA rfl
  have hF7 : F1 nlA = some (ah_ai D 40 nlf) := by rw [eF1]; exact ah_keep hmo hnlA rfl
  have hF8 : F1 neA = some (ah_ai D 320 nef) := by rw [eF1]; exact ah_keep hmo hneA rfl
  have hF9 : F1 sA = some (ah_ai D 200 sf) := by rw [eF1]; exact ah_keep hmo hsA rfl
  refine lv_aload_n hx hb dX7_streamLength_5 rfl (lv_at hl 0 rfl) ?_
  refine gf_Mod_67 E hP hF2 rfl dX7_streamLength_6 ?_
  rw [hQ]
  exact ah_iret E hr hP hS (md_An_i (k := 0) (v := nI S.length) (rfl) ⟨dA, tA, lA, eA, nlA, neA, sA, _, _, ln, _, _, _, _, _, _, _, hF2, hF3, hF4, hF5, hF6, hF7, hF8, hF9, hne1, hne2, hne3, hne4, hL⟩ (fun _ => rfl)) (Nat.le_of_ble_eq_true rfl) (Nat.le_of_ble_eq_true rfl) dX7_streamLength_9

set_option maxHeartbeats 4000000 in
set_option maxRecDepth 100000 in
/-- told -/
theorem m_told (l : Launch) (A : Nat → Prop) (D : ah_G) (F : ah_F) {mo n : Nat} {P : ah_Pt} {dr S : List Nat} {td th : Int32} (hC : md_C D F mo P n dr S td th)  : Met l yX7_told (Cond.code yX7_told cX7_told 1 (some .int) :: ah_T) { frames := 0, cells := 0, slots := 0, locals := 0 } (va_Pc [.ref mo] (ah_B A D F)) (ah_Qi A D (fun (r : Int32) F1 => md_An D F1 mo (0, td, (P, n, dr, S, td)) r)) 0 0 A := by
  refine ah_met (own := "AhoarchModel") (by decide) rfl (Nat.le_of_ble_eq_true rfl) ?_
  intro p e s m below meth c ls E hr hini hl hP hS Q hQ
  have hx := E.1
  have hb := E.2.1
  have hl : lv_has ls 1 [(0, .ref mo)] := hl
  obtain ⟨dA, tA, lA, eA, nlA, neA, sA, ip, il, ln, df, tf, lf, ef, nlf, nef, sf, hmo, hdA, htA, hlA, heA, hnlA, hneA, hsA, hne1, hne2, hne3, hne4, hL⟩ := id hC
  obtain ⟨hn40, hPn, hdok, hSl, hS200, hPok, hdis, hp20, hln, hlP, hdd, hss⟩ := id hL
  have hdl := hdok.1
  refine lv_aload_n hx hb dX7_told_0 rfl (lv_at hl 0 rfl) ?_
  refine lv_iconst (v := (nI 0)) hx hb dX7_told_1 (by decide) ?_
  refine pf_Mod_32 E hP hS hmo (Nat.le_of_ble_eq_true rfl) dX7_told_2 (fun H locs hP hS => ?_)
  obtain ⟨F1, eF1⟩ : ∃ Fz : ah_F, Fz = ah_up F mo (.inr (7, [.int (nI 0), .ref dA, .int (nI dr.length), .int (nI n), .ref tA, .ref lA, .ref eA, .ref nlA, .ref neA, .ref sA, .int (nI S.length), .int td, .int ip, .int il])) := ⟨_, rfl⟩
  have hP : ah_K A D F1 H := by rw [eF1]; exact hP
  have hF2 : F1 mo = some (.inr (7, [.int (nI 0), .ref dA, .int (nI dr.length), .int (nI n), .ref tA, .ref lA, .ref eA, .ref nlA, .ref neA, .ref sA, .int (nI S.length), .int td, .int ip, .int il])) := by rw [eF1]; exact ah_up_s _ _ _
  have hF3 : F1 dA = some (ah_ai D 8 df) := by rw [eF1]; exact ah_keep hmo hdA rfl
  have hF4 : F1 tA = some (ah_az D 40 tf) := by rw [eF1]; exact ah_keep hmo htA rfl
  have hF5 : F1 lA = some (ah_ai D 40 lf) := by rw [eF1]; exact ah_keep hmo hlA rfl
  have hF6 : F1 eA = some (ah_ai D 320 ef) := by rw [eF1]; exact ah_keep hmo heA rfl
  have hF7 : F1 nlA = some (ah_ai D 40 nlf) := by rw [eF1]; exact ah_keep hmo hnlA rfl
  have hF8 : F1 neA = some (ah_ai D 320 nef) := by rw [eF1]; exact ah_keep hmo hneA rfl
  have hF9 : F1 sA = some (ah_ai D 200 sf) := by rw [eF1]; exact ah_keep hmo hsA rfl
  refine lv_aload_n hx hb dX7_told_5 rfl (lv_at hl 0 rfl) ?_
  refine gf_Mod_78 E hP hF2 rfl dX7_told_6 ?_
  rw [hQ]
  exact ah_iret E hr hP hS (md_An_i (k := 0) (v := td) (rfl) ⟨dA, tA, lA, eA, nlA, neA, sA, _, _, ln, _, _, _, _, _, _, _, hF2, hF3, hF4, hF5, hF6, hF7, hF8, hF9, hne1, hne2, hne3, hne4, hL⟩ (fun _ => rfl)) (Nat.le_of_ble_eq_true rfl) (Nat.le_of_ble_eq_true rfl) dX7_told_9

set_option maxHeartbeats 4000000 in
set_option maxRecDepth 100000 in
/-- patterns -/
theorem m_patterns (l : Launch) (A : Nat → Prop) (D : ah_G) (F : ah_F) {mo n : Nat} {P : ah_Pt} {dr S : List Nat} {td th : Int32} (hC : md_C D F mo P n dr S td th)  : Met l yX7_patterns (Cond.code yX7_patterns cX7_patterns 1 (some .int) :: ah_T) { frames := 1, cells := 0, slots := 0, locals := 22 } (va_Pc [.ref mo] (ah_B A D F)) (ah_Qi A D (fun (r : Int32) F1 => md_An D F1 mo (0, nI (pu_cn (fun i => (P i).isSome) 40), (P, n, dr, S, td)) r)) 0 0 A := by
  refine ah_met (own := "AhoarchModel") (by decide) rfl (Nat.le_of_ble_eq_true rfl) ?_
  intro p e s m below meth c ls E hr hini hl hP hS Q hQ
  have hx := E.1
  have hb := E.2.1
  have hl : lv_has ls 1 [(0, .ref mo)] := hl
  obtain ⟨dA, tA, lA, eA, nlA, neA, sA, ip, il, ln, df, tf, lf, ef, nlf, nef, sf, hmo, hdA, htA, hlA, heA, hnlA, hneA, hsA, hne1, hne2, hne3, hne4, hL⟩ := id hC
  obtain ⟨hn40, hPn, hdok, hSl, hS200, hPok, hdis, hp20, hln, hlP, hdd, hss⟩ := id hL
  have hdl := hdok.1
  refine lv_aload_n hx hb dX7_patterns_0 rfl (lv_at hl 0 rfl) ?_
  refine lv_iconst (v := (nI 0)) hx hb dX7_patterns_1 (by decide) ?_
  refine pf_Mod_32 E hP hS hmo (Nat.le_of_ble_eq_true rfl) dX7_patterns_2 (fun H locs hP hS => ?_)
  obtain ⟨F1, eF1⟩ : ∃ Fz : ah_F, Fz = ah_up F mo (.inr (7, [.int (nI 0), .ref dA, .int (nI dr.length), .int (nI n), .ref tA, .ref lA, .ref eA, .ref nlA, .ref neA, .ref sA, .int (nI S.length), .int td, .int ip, .int il])) := ⟨_, rfl⟩
  have hP : ah_K A D F1 H := by rw [eF1]; exact hP
  have hF2 : F1 mo = some (.inr (7, [.int (nI 0), .ref dA, .int (nI dr.length), .int (nI n), .ref tA, .ref lA, .ref eA, .ref nlA, .ref neA, .ref sA, .int (nI S.length), .int td, .int ip, .int il])) := by rw [eF1]; exact ah_up_s _ _ _
  have hF3 : F1 dA = some (ah_ai D 8 df) := by rw [eF1]; exact ah_keep hmo hdA rfl
  have hF4 : F1 tA = some (ah_az D 40 tf) := by rw [eF1]; exact ah_keep hmo htA rfl
  have hF5 : F1 lA = some (ah_ai D 40 lf) := by rw [eF1]; exact ah_keep hmo hlA rfl
  have hF6 : F1 eA = some (ah_ai D 320 ef) := by rw [eF1]; exact ah_keep hmo heA rfl
  have hF7 : F1 nlA = some (ah_ai D 40 nlf) := by rw [eF1]; exact ah_keep hmo hnlA rfl
  have hF8 : F1 neA = some (ah_ai D 320 nef) := by rw [eF1]; exact ah_keep hmo hneA rfl
  have hF9 : F1 sA = some (ah_ai D 200 sf) := by rw [eF1]; exact ah_keep hmo hsA rfl
  refine lv_aload_n hx hb dX7_patterns_5 rfl (lv_at hl 0 rfl) ?_
  refine ah_calli (ah_runV E hP hS (As := []) (rest := []) (b := mo) (m_patternsNow l A D _ hF2 hF3 hF4 hF5 hF6 hF7 hF8 hF9 hL) lk_Mod_50 li_Mod_50 hF2 rfl ⟨rfl, rfl, (Nat.le_of_ble_eq_true rfl), (Nat.le_of_ble_eq_true rfl)⟩ rfl hl.1 rfl (Nat.le_of_ble_eq_true rfl) dX7_patterns_6 ⟨(Nat.le_of_ble_eq_true rfl), (Nat.le_of_ble_eq_true rfl)⟩) hS (fun r F10 H locs hq hP hS => ?_)
  obtain ⟨rfl, rfl⟩ := hq
  rw [hQ]
  exact ah_iret E hr hP hS (md_An_i (k := 0) (v := _) (rfl) ⟨dA, tA, lA, eA, nlA, neA, sA, _, _, ln, _, _, _, _, _, _, _, hF2, hF3, hF4, hF5, hF6, hF7, hF8, hF9, hne1, hne2, hne3, hne4, hL⟩ (fun _ => rfl)) (Nat.le_of_ble_eq_true rfl) (Nat.le_of_ble_eq_true rfl) dX7_patterns_9

set_option maxHeartbeats 4000000 in
set_option maxRecDepth 100000 in
/-- clear -/
theorem m_clear (l : Launch) (A : Nat → Prop) (D : ah_G) (F : ah_F) {mo n : Nat} {P : ah_Pt} {dr S : List Nat} {td th : Int32} (hC : md_C D F mo P n dr S td th)  : Met l yX7_clear (Cond.code yX7_clear cX7_clear 2 (some .int) :: ah_T) { frames := 0, cells := 0, slots := 0, locals := 0 } (va_Pc [.ref mo] (ah_B A D F)) (ah_Qi A D (fun (r : Int32) F1 => md_An D F1 mo (0, nI S.length, (P, n, dr, [], nI 0)) r)) 0 0 A := by
  refine ah_met (own := "AhoarchModel") (by decide) rfl (Nat.le_of_ble_eq_true rfl) ?_
  intro p e s m below meth c ls E hr hini hl hP hS Q hQ
  have hx := E.1
  have hb := E.2.1
  have hl : lv_has ls 2 [(0, .ref mo)] := hl
  obtain ⟨dA, tA, lA, eA, nlA, neA, sA, ip, il, ln, df, tf, lf, ef, nlf, nef, sf, hmo, hdA, htA, hlA, heA, hnlA, hneA, hsA, hne1, hne2, hne3, hne4, hL⟩ := id hC
  obtain ⟨hn40, hPn, hdok, hSl, hS200, hPok, hdis, hp20, hln, hlP, hdd, hss⟩ := id hL
  have hdl := hdok.1
  refine lv_aload_n hx hb dX7_clear_0 rfl (lv_at hl 0 rfl) ?_
  refine lv_iconst (v := (nI 0)) hx hb dX7_clear_1 (by decide) ?_
  refine pf_Mod_32 E hP hS hmo (Nat.le_of_ble_eq_true rfl) dX7_clear_2 (fun H locs hP hS => ?_)
  obtain ⟨F1, eF1⟩ : ∃ Fz : ah_F, Fz = ah_up F mo (.inr (7, [.int (nI 0), .ref dA, .int (nI dr.length), .int (nI n), .ref tA, .ref lA, .ref eA, .ref nlA, .ref neA, .ref sA, .int (nI S.length), .int td, .int ip, .int il])) := ⟨_, rfl⟩
  have hP : ah_K A D F1 H := by rw [eF1]; exact hP
  have hF2 : F1 mo = some (.inr (7, [.int (nI 0), .ref dA, .int (nI dr.length), .int (nI n), .ref tA, .ref lA, .ref eA, .ref nlA, .ref neA, .ref sA, .int (nI S.length), .int td, .int ip, .int il])) := by rw [eF1]; exact ah_up_s _ _ _
  have hF3 : F1 dA = some (ah_ai D 8 df) := by rw [eF1]; exact ah_keep hmo hdA rfl
  have hF4 : F1 tA = some (ah_az D 40 tf) := by rw [eF1]; exact ah_keep hmo htA rfl
  have hF5 : F1 lA = some (ah_ai D 40 lf) := by rw [eF1]; exact ah_keep hmo hlA rfl
  have hF6 : F1 eA = some (ah_ai D 320 ef) := by rw [eF1]; exact ah_keep hmo heA rfl
  have hF7 : F1 nlA = some (ah_ai D 40 nlf) := by rw [eF1]; exact ah_keep hmo hnlA rfl
  have hF8 : F1 neA = some (ah_ai D 320 nef) := by rw [eF1]; exact ah_keep hmo hneA rfl
  have hF9 : F1 sA = some (ah_ai D 200 sf) := by rw [eF1]; exact ah_keep hmo hsA rfl
  refine lv_aload_n hx hb dX7_clear_5 rfl (lv_at hl 0 rfl) ?_
  refine gf_Mod_67 E hP hF2 rfl dX7_clear_6 ?_
  refine lv_istore_n (lv' := [(1, .int (nI S.length)), (0, .ref mo)]) hx hb dX7_clear_9 rfl hl (by decide) rfl (fun ls hl => ?_)
  refine lv_aload_n hx hb dX7_clear_10 rfl (lv_at hl 1 rfl) ?_
  refine lv_iconst (v := (nI 0)) hx hb dX7_clear_11 (by decide) ?_
  refine pf_Mod_67 E hP hS hF2 (Nat.le_of_ble_eq_true rfl) dX7_clear_12 (fun H locs hP hS => ?_)
  obtain ⟨F10, eF10⟩ : ∃ Fz : ah_F, Fz = ah_up F1 mo (.inr (7, [.int (nI 0), .ref dA, .int (nI dr.length), .int (nI n), .ref tA, .ref lA, .ref eA, .ref nlA, .ref neA, .ref sA, .int (nI 0), .int td, .int ip, .int il])) := ⟨_, rfl⟩
  have hP : ah_K A D F10 H := by rw [eF10]; exact hP
  have hF11 : F10 mo = some (.inr (7, [.int (nI 0), .ref dA, .int (nI dr.length), .int (nI n), .ref tA, .ref lA, .ref eA, .ref nlA, .ref neA, .ref sA, .int (nI 0), .int td, .int ip, .int il])) := by rw [eF10]; exact ah_up_s _ _ _
  have hF12 : F10 dA = some (ah_ai D 8 df) := by rw [eF10]; exact ah_keep hF2 hF3 rfl
  have hF13 : F10 tA = some (ah_az D 40 tf) := by rw [eF10]; exact ah_keep hF2 hF4 rfl
  have hF14 : F10 lA = some (ah_ai D 40 lf) := by rw [eF10]; exact ah_keep hF2 hF5 rfl
  have hF15 : F10 eA = some (ah_ai D 320 ef) := by rw [eF10]; exact ah_keep hF2 hF6 rfl
  have hF16 : F10 nlA = some (ah_ai D 40 nlf) := by rw [eF10]; exact ah_keep hF2 hF7 rfl
  have hF17 : F10 neA = some (ah_ai D 320 nef) := by rw [eF10]; exact ah_keep hF2 hF8 rfl
  have hF18 : F10 sA = some (ah_ai D 200 sf) := by rw [eF10]; exact ah_keep hF2 hF9 rfl
  refine lv_aload_n hx hb dX7_clear_15 rfl (lv_at hl 1 rfl) ?_
  refine lv_iconst (v := (nI 0)) hx hb dX7_clear_16 (by decide) ?_
  refine pf_Mod_78 E hP hS hF11 (Nat.le_of_ble_eq_true rfl) dX7_clear_17 (fun H locs hP hS => ?_)
  obtain ⟨F19, eF19⟩ : ∃ Fz : ah_F, Fz = ah_up F10 mo (.inr (7, [.int (nI 0), .ref dA, .int (nI dr.length), .int (nI n), .ref tA, .ref lA, .ref eA, .ref nlA, .ref neA, .ref sA, .int (nI 0), .int (nI 0), .int ip, .int il])) := ⟨_, rfl⟩
  have hP : ah_K A D F19 H := by rw [eF19]; exact hP
  have hF20 : F19 mo = some (.inr (7, [.int (nI 0), .ref dA, .int (nI dr.length), .int (nI n), .ref tA, .ref lA, .ref eA, .ref nlA, .ref neA, .ref sA, .int (nI 0), .int (nI 0), .int ip, .int il])) := by rw [eF19]; exact ah_up_s _ _ _
  have hF21 : F19 dA = some (ah_ai D 8 df) := by rw [eF19]; exact ah_keep hF11 hF12 rfl
  have hF22 : F19 tA = some (ah_az D 40 tf) := by rw [eF19]; exact ah_keep hF11 hF13 rfl
  have hF23 : F19 lA = some (ah_ai D 40 lf) := by rw [eF19]; exact ah_keep hF11 hF14 rfl
  have hF24 : F19 eA = some (ah_ai D 320 ef) := by rw [eF19]; exact ah_keep hF11 hF15 rfl
  have hF25 : F19 nlA = some (ah_ai D 40 nlf) := by rw [eF19]; exact ah_keep hF11 hF16 rfl
  have hF26 : F19 neA = some (ah_ai D 320 nef) := by rw [eF19]; exact ah_keep hF11 hF17 rfl
  have hF27 : F19 sA = some (ah_ai D 200 sf) := by rw [eF19]; exact ah_keep hF11 hF18 rfl
  refine lv_iload_n hx hb dX7_clear_20 rfl (lv_at hl 0 rfl) ?_
  rw [hQ]
  exact ah_iret E hr hP hS (md_An_i (k := 0) (v := nI S.length) rfl ⟨dA, tA, lA, eA, nlA, neA, sA, _, _, ln, _, _, _, _, _, _, _, hF20, hF21, hF22, hF23, hF24, hF25, hF26, hF27, hne1, hne2, hne3, hne4, (md_L_clr hL)⟩ (fun _ => rfl)) (Nat.le_of_ble_eq_true rfl) (Nat.le_of_ble_eq_true rfl) dX7_clear_21

set_option maxHeartbeats 4000000 in
set_option maxRecDepth 100000 in
/-- length -/
theorem m_length (l : Launch) (A : Nat → Prop) (D : ah_G) (F : ah_F) {mo n : Nat} {P : ah_Pt} {dr S : List Nat} {td th : Int32} (hC : md_C D F mo P n dr S td th) {v0 : Int32} : Met l yX7_length (Cond.code yX7_length cX7_length 2 (some .int) :: ah_T) { frames := 2, cells := 0, slots := 0, locals := 42 } (va_Pc [.ref mo, .int v0] (ah_B A D F)) (ah_Qi A D (fun (r : Int32) F1 => md_An D F1 mo (sp_length P n dr S td v0) r)) 0 0 A := by
  refine ah_met (own := "AhoarchModel") (by decide) rfl (Nat.le_of_ble_eq_true rfl) ?_
  intro p e s m below meth c ls E hr hini hl hP hS Q hQ
  have hx := E.1
  have hb := E.2.1
  have hl : lv_has ls 2 [(0, .ref mo), (1, .int v0)] := hl
  obtain ⟨dA, tA, lA, eA, nlA, neA, sA, ip, il, ln, df, tf, lf, ef, nlf, nef, sf, hmo, hdA, htA, hlA, heA, hnlA, hneA, hsA, hne1, hne2, hne3, hne4, hL⟩ := id hC
  obtain ⟨hn40, hPn, hdok, hSl, hS200, hPok, hdis, hp20, hln, hlP, hdd, hss⟩ := id hL
  have hdl := hdok.1
  refine lv_aload_n hx hb dX7_length_0 rfl (lv_at hl 0 rfl) ?_
  refine lv_iload_n hx hb dX7_length_1 rfl (lv_at hl 1 rfl) ?_
  refine ah_calli (ah_runV E hP hS (As := [.int v0]) (rest := []) (b := mo) (m_isAsked l A D _ hmo hdA htA hlA heA hnlA hneA hsA hL (v0 := v0)) lk_Mod_60 li_Mod_60 hmo rfl ⟨rfl, rfl, (Nat.le_of_ble_eq_true rfl), (Nat.le_of_ble_eq_true rfl)⟩ rfl hl.1 rfl (Nat.le_of_ble_eq_true rfl) dX7_length_2 ⟨(Nat.le_of_ble_eq_true rfl), (Nat.le_of_ble_eq_true rfl)⟩) hS (fun r F1 H locs hask hP hS => ?_)
  obtain ⟨eask, hro⟩ := hask
  have hG2 : F1 dA = some (ah_ai D 8 df) := by rw [eask]; exact ah_keep hmo hdA rfl
  have hG3 : F1 tA = some (ah_az D 40 tf) := by rw [eask]; exact ah_keep hmo htA rfl
  have hG4 : F1 lA = some (ah_ai D 40 lf) := by rw [eask]; exact ah_keep hmo hlA rfl
  have hG5 : F1 eA = some (ah_ai D 320 ef) := by rw [eask]; exact ah_keep hmo heA rfl
  have hG6 : F1 nlA = some (ah_ai D 40 nlf) := by rw [eask]; exact ah_keep hmo hnlA rfl
  have hG7 : F1 neA = some (ah_ai D 320 nef) := by rw [eask]; exact ah_keep hmo hneA rfl
  have hG8 : F1 sA = some (ah_ai D 200 sf) := by rw [eask]; exact ah_keep hmo hsA rfl
  have hG9 : F1 mo = some (.inr (7, [.int (nI (md_tn (ah_pi P v0).isSome)), .ref dA, .int (nI dr.length), .int (nI n), .ref tA, .ref lA, .ref eA, .ref nlA, .ref neA, .ref sA, .int (nI S.length), .int td, .int ip, .int il])) := by rw [eask]; exact ah_up_s _ _ _
  subst hro
  refine ah_ifb_eq (tgt := 17) hx hb dX7_length_5 (by decide) (fun hc5 => ?_) (fun hc5 => ?_)
  · skip
    have hnone := md_none hc5
    have hth : md_tn (ah_pi P v0).isSome = 1 := by rw [hc5]; rfl
    rw [hth] at hG9
    refine lv_iconst (v := (nI 0)) hx hb dX7_length_17 (by decide) ?_
    rw [hQ]
    exact ah_iret E hr hP hS (md_An_i (k := 1) (v := 0) (by simp only [sp_length, hnone]) ⟨dA, tA, lA, eA, nlA, neA, sA, _, _, ln, _, _, _, _, _, _, _, hG9, hG2, hG3, hG4, hG5, hG6, hG7, hG8, hne1, hne2, hne3, hne4, hL⟩ (fun h => absurd h (by decide))) (Nat.le_of_ble_eq_true rfl) (Nat.le_of_ble_eq_true rfl) dX7_length_18
  · skip
    have hth : md_tn (ah_pi P v0).isSome = 0 := by rw [hc5]; rfl
    rw [hth] at hG9
    obtain ⟨i, hpi⟩ := Option.isSome_iff_exists.mp hc5
    obtain ⟨hi40, hvi, hPs⟩ := ah_pi_lt hpi
    obtain ⟨⟨w, r0⟩, hPi⟩ := Option.isSome_iff_exists.mp hPs
    have hin := md_lt hPn hPs
    obtain ⟨hl8, hlf, htf⟩ := hln i hin
    obtain ⟨hlw, hew, hnl, hnew⟩ := hlP i w r0 hPi
    obtain ⟨hok, hokr, hnw⟩ := hPok i w r0 hPi
    have hwl := hok.1
    have hrl := hokr.1
    rw [hvi] at hl
    refine lv_aload_n hx hb dX7_length_8 rfl (lv_at hl 0 rfl) ?_
    refine gf_Mod_17 E hP hG9 rfl dX7_length_9 ?_
    refine lv_iload_n hx hb dX7_length_12 rfl (lv_at hl 1 rfl) ?_
    refine ah_iald E hP hG4 (by omega) (by omega) dX7_length_13 ?_
    rw [hlf, hlw]
    refine lv_goto (tgt := 18) hx hb dX7_length_14 (by decide) ?_
    rw [hQ]
    exact ah_iret E hr hP hS (md_An_i (k := 0) (v := nI w.length) (by simp only [sp_length, hpi, ah_w_s hPi]) ⟨dA, tA, lA, eA, nlA, neA, sA, _, _, ln, _, _, _, _, _, _, _, hG9, hG2, hG3, hG4, hG5, hG6, hG7, hG8, hne1, hne2, hne3, hne4, hL⟩ (fun _ => rfl)) (Nat.le_of_ble_eq_true rfl) (Nat.le_of_ble_eq_true rfl) dX7_length_18
