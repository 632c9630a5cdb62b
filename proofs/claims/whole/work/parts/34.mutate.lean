theorem md_L_dr {P : ah_Pt} {n y : Nat} {dr S : List Nat} {ln : Nat → Nat} {df tf lf ef nlf nef sf : Nat → Int32} (h : md_L P n dr S ln df tf lf ef nlf nef sf) (hd : dr.length < 8) (h1 : 1 ≤ y) (h2 : y ≤ 26) : md_L P n (dr ++ [y]) S ln (upd df dr.length (nI (y + 96))) tf lf ef nlf nef sf := by
  obtain ⟨g1, g2, g3, g4, g5, g6, g7, g8, g9, g10, g11, g12⟩ := h
  refine ⟨g1, g2, ⟨by rw [List.length_append]; show dr.length + 1 ≤ 8; omega, ah_lt_app.mpr ⟨g3.2, fun z hz => by simp at hz; omega⟩⟩, g4, g5, g6, g7, g8, g9, g10, fun k hk => ?_, g12⟩
  rw [List.length_append] at hk
  have hk : k < dr.length + 1 := hk
  by_cases e : k = dr.length
  · subst e
    rw [pk_us]
    simp [Nat.add_comm]
  · rw [pk_un e, g11 k (by omega)]
    rw [List.getD_eq_getElem?_getD, List.getD_eq_getElem?_getD, List.getElem?_append_left (by omega)]
theorem md_L_sn {P : ah_Pt} {n y : Nat} {dr S : List Nat} {ln : Nat → Nat} {df tf lf ef nlf nef sf : Nat → Int32} (h : md_L P n dr S ln df tf lf ef nlf nef sf) (hd : S.length < 200) (h1 : 1 ≤ y) (h2 : y ≤ 26) : md_L P n dr (S ++ [y]) ln df tf lf ef nlf nef (upd sf S.length (nI (y + 96))) := by
  obtain ⟨g1, g2, g3, g4, g5, g6, g7, g8, g9, g10, g11, g12⟩ := h
  refine ⟨g1, g2, g3, ah_lt_app.mpr ⟨g4, fun z hz => by simp at hz; omega⟩, by rw [List.length_append]; show S.length + 1 ≤ 200; omega, g6, g7, g8, g9, g10, g11, fun k hk => ?_⟩
  rw [List.length_append] at hk
  have hk : k < S.length + 1 := hk
  by_cases e : k = S.length
  · subst e
    rw [pk_us]
    simp [Nat.add_comm]
  · rw [pk_un e, g12 k (by omega)]
    rw [List.getD_eq_getElem?_getD, List.getD_eq_getElem?_getD, List.getElem?_append_left (by omega)]
theorem md_L_del {P : ah_Pt} {n i : Nat} {dr S : List Nat} {ln : Nat → Nat} {df tf lf ef nlf nef sf : Nat → Int32} (h : md_L P n dr S ln df tf lf ef nlf nef sf) (hi : i < n) (hp : (P i).isSome = true) : md_L (ah_del P i) n dr S ln df (upd tf i (nI 0)) lf ef nlf nef sf := by
  obtain ⟨g1, g2, g3, g4, g5, g6, g7, g8, g9, g10, g11, g12⟩ := h
  have hs : ∀ j w r, ah_del P i j = some (w, r) → P j = some (w, r) := fun j w r e => by
    rw [ah_del] at e
    split at e
    · cases e
    · exact e
  have hc := ah_cn_del (show i < 40 by omega) hp
  refine ⟨g1, fun j hj => by rw [ah_del]; split; rfl; exact g2 j hj, g3, g4, g5, fun j w r e => g6 j w r (hs j w r e), fun a b w r r2 e1 e2 => g7 a b w r r2 (hs _ _ _ e1) (hs _ _ _ e2), by omega, fun j hj => ?_, fun j w r e => g10 j w r (hs j w r e), g11, g12⟩
  refine ⟨(g9 j hj).1, (g9 j hj).2.1, ?_⟩
  by_cases e : j = i
  · subst e
    rw [pk_us, ah_del, if_pos rfl]; rfl
  · rw [pk_un e, ah_del, if_neg e]; exact (g9 j hj).2.2
set_option maxHeartbeats 4000000 in
set_option maxRecDepth 100000 in
/-- draft -/
theorem m_draft (l : Launch) (A : Nat → Prop) (D : ah_G) (F : ah_F) {mo n : Nat} {P : ah_Pt} {dr S : List Nat} {td th : Int32} (hC : md_C D F mo P n dr S td th) {cv : Nat} (hcv : cv < 65536) : Met l yX7_draft (Cond.code yX7_draft cX7_draft 2 (some .int) :: ah_T) { frames := 1, cells := 0, slots := 0, locals := 21 } (va_Pc [.ref mo, .int (nI cv)] (ah_B A D F)) (ah_Qi A D (fun (r : Int32) F1 => md_An D F1 mo (sp_draft P n dr S td cv) r)) 0 0 A := by
  refine ah_met (own := "AhoarchModel") (by decide) rfl (Nat.le_of_ble_eq_true rfl) ?_
  intro p e s m below meth c ls E hr hini hl hP hS Q hQ
  have hx := E.1
  have hb := E.2.1
  have hl : lv_has ls 2 [(0, .ref mo), (1, .int (nI cv))] := hl
  obtain ⟨dA, tA, lA, eA, nlA, neA, sA, ip, il, ln, df, tf, lf, ef, nlf, nef, sf, hmo, hdA, htA, hlA, heA, hnlA, hneA, hsA, hne1, hne2, hne3, hne4, hL⟩ := id hC
  obtain ⟨hn40, hPn, hdok, hSl, hS200, hPok, hdis, hp20, hln, hlP, hdd, hss⟩ := id hL
  have hdl := hdok.1
  refine lv_aload_n hx hb dX7_draft_0 rfl (lv_at hl 0 rfl) ?_
  refine lv_iload_n hx hb dX7_draft_1 rfl (lv_at hl 1 rfl) ?_
  refine ah_calli (ah_runS E hP hS (As := [.int (nI cv)]) (rest := [.ref mo]) (m_isLetter l A D _ hcv) lk_Mod_39 li_Mod_39 ⟨rfl, rfl, (Nat.le_of_ble_eq_true rfl), (Nat.le_of_ble_eq_true rfl)⟩ rfl hl.1 rfl (Nat.le_of_ble_eq_true rfl) dX7_draft_2 ⟨(Nat.le_of_ble_eq_true rfl), (Nat.le_of_ble_eq_true rfl)⟩) hS (fun r F1 H locs hq hP hS => ?_)
  obtain ⟨rfl, rfl⟩ := hq
  refine ah_ifb_ne (tgt := 12) hx hb dX7_draft_5 (by decide) (fun hc5 => ?_) (fun hc5 => ?_)
  · skip
    have hcl := of_decide_eq_true hc5
    refine lv_aload_n hx hb dX7_draft_12 rfl (lv_at hl 0 rfl) ?_
    refine gf_Mod_43 E hP hmo rfl dX7_draft_13 ?_
    refine lv_bipush (v := (nI 8)) hx hb dX7_draft_16 (by decide) ?_
    refine ah_icmp_ne (tgt := 25) hx hb (by omega) (by omega) dX7_draft_18 (by decide) (fun hc18 => ?_) (fun hc18 => ?_)
    · skip
      refine lv_iconst (v := (nI 0)) hx hb dX7_draft_25 (by decide) ?_
      refine ah_calli (ah_runV E hP hS (As := [.int (nI 0)]) (rest := []) (b := mo) (m_holds l A D _ hmo hdA htA hlA heA hnlA hneA hsA hL (k := 0) (by omega)) lk_Mod_46 li_Mod_46 hmo rfl ⟨rfl, rfl, (Nat.le_of_ble_eq_true rfl), (Nat.le_of_ble_eq_true rfl)⟩ rfl hl.1 rfl (Nat.le_of_ble_eq_true rfl) dX7_draft_26 ⟨(Nat.le_of_ble_eq_true rfl), (Nat.le_of_ble_eq_true rfl)⟩) hS (fun r F2 H locs hho26 hP hS => ?_)
      obtain ⟨eho26, hro⟩ := hho26
      have hG3 : F2 dA = some (ah_ai D 8 df) := by rw [eho26]; exact ah_keep hmo hdA rfl
      have hG4 : F2 tA = some (ah_az D 40 tf) := by rw [eho26]; exact ah_keep hmo htA rfl
      have hG5 : F2 lA = some (ah_ai D 40 lf) := by rw [eho26]; exact ah_keep hmo hlA rfl
      have hG6 : F2 eA = some (ah_ai D 320 ef) := by rw [eho26]; exact ah_keep hmo heA rfl
      have hG7 : F2 nlA = some (ah_ai D 40 nlf) := by rw [eho26]; exact ah_keep hmo hnlA rfl
      have hG8 : F2 neA = some (ah_ai D 320 nef) := by rw [eho26]; exact ah_keep hmo hneA rfl
      have hG9 : F2 sA = some (ah_ai D 200 sf) := by rw [eho26]; exact ah_keep hmo hsA rfl
      have hG10 : F2 mo = some (.inr (7, [.int (nI 0), .ref dA, .int (nI dr.length), .int (nI n), .ref tA, .ref lA, .ref eA, .ref nlA, .ref neA, .ref sA, .int (nI S.length), .int td, .int ip, .int il])) := by rw [eho26]; exact ah_up_s _ _ _
      subst hro
      refine ah_ifb_ne (tgt := 34) hx hb dX7_draft_29 (by decide) (fun hc29 => ?_) (fun hc29 => ?_)
      · skip
        obtain ⟨y, hcy⟩ : ∃ y, cv = y + 96 := ⟨cv - 96, by omega⟩
        rw [hcy] at hl
        refine lv_aload_n hx hb dX7_draft_34 rfl (lv_at hl 0 rfl) ?_
        refine gf_Mod_7 E hP hG10 rfl dX7_draft_35 ?_
        refine lv_aload_n hx hb dX7_draft_38 rfl (lv_at hl 0 rfl) ?_
        refine gf_Mod_43 E hP hG10 rfl dX7_draft_39 ?_
        refine lv_iload_n hx hb dX7_draft_42 rfl (lv_at hl 1 rfl) ?_
        refine ah_iast E hP hS hG3 (by omega) (by omega) dX7_draft_43 (fun H locs hP hS => ?_)
        obtain ⟨F11, eF11⟩ : ∃ Fz : ah_F, Fz = ah_up F2 dA (ah_ai D 8 (upd df dr.length (nI (y + 96)))) := ⟨_, rfl⟩
        have hP : ah_K A D F11 H := by rw [eF11]; exact hP
        have hF12 : F11 dA = some (ah_ai D 8 (upd df dr.length (nI (y + 96)))) := by rw [eF11]; exact ah_up_s _ _ _
        have hF13 : F11 tA = some (ah_az D 40 tf) := by rw [eF11]; exact ah_keep hG3 hG4 rfl
        have hF14 : F11 lA = some (ah_ai D 40 lf) := by rw [eF11]; exact ah_keep hG3 hG5 rfl
        have hF15 : F11 eA = some (ah_ai D 320 ef) := by rw [eF11]; exact ah_keep hG3 hG6 rfl
        have hF16 : F11 nlA = some (ah_ai D 40 nlf) := by rw [eF11]; exact ah_keep hG3 hG7 rfl
        have hF17 : F11 neA = some (ah_ai D 320 nef) := by rw [eF11]; exact ah_keep hG3 hG8 rfl
        have hF18 : F11 sA = some (ah_ai D 200 sf) := by rw [eF11]; exact ah_keep hG3 hG9 rfl
        have hF19 : F11 mo = some (.inr (7, [.int (nI 0), .ref dA, .int (nI dr.length), .int (nI n), .ref tA, .ref lA, .ref eA, .ref nlA, .ref neA, .ref sA, .int (nI S.length), .int td, .int ip, .int il])) := by rw [eF11]; exact ah_keep hG3 hG10 rfl
        refine lv_aload_n hx hb dX7_draft_44 rfl (lv_at hl 0 rfl) ?_
        refine lv_dup hx hb dX7_draft_45 rfl ?_
        refine gf_Mod_43 E hP hF19 rfl dX7_draft_46 ?_
        refine lv_iconst (v := (nI 1)) hx hb dX7_draft_49 (by decide) ?_
        refine ah_iadd hx hb dX7_draft_50 ?_
        refine pf_Mod_43 E hP hS hF19 (Nat.le_of_ble_eq_true rfl) dX7_draft_51 (fun H locs hP hS => ?_)
        obtain ⟨F20, eF20⟩ : ∃ Fz : ah_F, Fz = ah_up F11 mo (.inr (7, [.int (nI 0), .ref dA, .int (nI (dr.length + 1)), .int (nI n), .ref tA, .ref lA, .ref eA, .ref nlA, .ref neA, .ref sA, .int (nI S.length), .int td, .int ip, .int il])) := ⟨_, rfl⟩
        have hP : ah_K A D F20 H := by rw [eF20]; exact hP
        have hF21 : F20 mo = some (.inr (7, [.int (nI 0), .ref dA, .int (nI (dr.length + 1)), .int (nI n), .ref tA, .ref lA, .ref eA, .ref nlA, .ref neA, .ref sA, .int (nI S.length), .int td, .int ip, .int il])) := by rw [eF20]; exact ah_up_s _ _ _
        have hF22 : F20 tA = some (ah_az D 40 tf) := by rw [eF20]; exact ah_keep hF19 hF13 rfl
        have hF23 : F20 lA = some (ah_ai D 40 lf) := by rw [eF20]; exact ah_keep hF19 hF14 rfl
        have hF24 : F20 eA = some (ah_ai D 320 ef) := by rw [eF20]; exact ah_keep hF19 hF15 rfl
        have hF25 : F20 nlA = some (ah_ai D 40 nlf) := by rw [eF20]; exact ah_keep hF19 hF16 rfl
        have hF26 : F20 neA = some (ah_ai D 320 nef) := by rw [eF20]; exact ah_keep hF19 hF17 rfl
        have hF27 : F20 sA = some (ah_ai D 200 sf) := by rw [eF20]; exact ah_keep hF19 hF18 rfl
        have hF28 : F20 dA = some (ah_ai D 8 (upd df dr.length (nI (y + 96)))) := by rw [eF20]; exact ah_keep hF19 hF12 rfl
        refine lv_aload_n hx hb dX7_draft_54 rfl (lv_at hl 0 rfl) ?_
        refine gf_Mod_43 E hP hF21 rfl dX7_draft_55 ?_
        rw [hQ]
        exact ah_iret E hr hP hS (md_An_i (k := 0) (v := nI (dr.length + 1)) (by rw [sp_draft, if_neg (by omega), if_neg (by omega), show cv - 96 = y by omega]) ⟨dA, tA, lA, eA, nlA, neA, sA, _, _, ln, _, _, _, _, _, _, _, (by rw [List.length_append]; exact hF21), hF28, hF22, hF23, hF24, hF25, hF26, hF27, hne1, hne2, hne3, hne4, (md_L_dr hL (by omega) (by omega) (by omega))⟩ (fun _ => rfl)) (Nat.le_of_ble_eq_true rfl) (Nat.le_of_ble_eq_true rfl) dX7_draft_58
      · skip
        exact absurd hc29 (by decide)
    · skip
      refine lv_iconst (v := (nI 2)) hx hb dX7_draft_21 (by decide) ?_
      refine lv_goto (tgt := 26) hx hb dX7_draft_22 (by decide) ?_
      refine ah_calli (ah_runV E hP hS (As := [.int (nI 2)]) (rest := []) (b := mo) (m_holds l A D _ hmo hdA htA hlA heA hnlA hneA hsA hL (k := 2) (by omega)) lk_Mod_46 li_Mod_46 hmo rfl ⟨rfl, rfl, (Nat.le_of_ble_eq_true rfl), (Nat.le_of_ble_eq_true rfl)⟩ rfl hl.1 rfl (Nat.le_of_ble_eq_true rfl) dX7_draft_26 ⟨(Nat.le_of_ble_eq_true rfl), (Nat.le_of_ble_eq_true rfl)⟩) hS (fun r F29 H locs hho26 hP hS => ?_)
      obtain ⟨eho26, hro⟩ := hho26
      have hG30 : F29 dA = some (ah_ai D 8 df) := by rw [eho26]; exact ah_keep hmo hdA rfl
      have hG31 : F29 tA = some (ah_az D 40 tf) := by rw [eho26]; exact ah_keep hmo htA rfl
      have hG32 : F29 lA = some (ah_ai D 40 lf) := by rw [eho26]; exact ah_keep hmo hlA rfl
      have hG33 : F29 eA = some (ah_ai D 320 ef) := by rw [eho26]; exact ah_keep hmo heA rfl
      have hG34 : F29 nlA = some (ah_ai D 40 nlf) := by rw [eho26]; exact ah_keep hmo hnlA rfl
      have hG35 : F29 neA = some (ah_ai D 320 nef) := by rw [eho26]; exact ah_keep hmo hneA rfl
      have hG36 : F29 sA = some (ah_ai D 200 sf) := by rw [eho26]; exact ah_keep hmo hsA rfl
      have hG37 : F29 mo = some (.inr (7, [.int (nI 2), .ref dA, .int (nI dr.length), .int (nI n), .ref tA, .ref lA, .ref eA, .ref nlA, .ref neA, .ref sA, .int (nI S.length), .int td, .int ip, .int il])) := by rw [eho26]; exact ah_up_s _ _ _
      subst hro
      refine ah_ifb_ne (tgt := 34) hx hb dX7_draft_29 (by decide) (fun hc29 => ?_) (fun hc29 => ?_)
      · skip
        exact absurd hc29 (by decide)
      · skip
        refine lv_iconst (v := (nI 0)) hx hb dX7_draft_32 (by decide) ?_
        rw [hQ]
        exact ah_iret E hr hP hS (md_An_i (k := 2) (v := 0) (by rw [sp_draft, if_neg (by omega), if_pos (by omega)]) ⟨dA, tA, lA, eA, nlA, neA, sA, _, _, ln, _, _, _, _, _, _, _, hG37, hG30, hG31, hG32, hG33, hG34, hG35, hG36, hne1, hne2, hne3, hne4, hL⟩ (fun h => absurd h (by decide))) (Nat.le_of_ble_eq_true rfl) (Nat.le_of_ble_eq_true rfl) dX7_draft_33
  · skip
    have hcl := of_decide_eq_false hc5
    refine lv_iconst (v := (nI 1)) hx hb dX7_draft_8 (by decide) ?_
    refine lv_goto (tgt := 26) hx hb dX7_draft_9 (by decide) ?_
    refine ah_calli (ah_runV E hP hS (As := [.int (nI 1)]) (rest := []) (b := mo) (m_holds l A D _ hmo hdA htA hlA heA hnlA hneA hsA hL (k := 1) (by omega)) lk_Mod_46 li_Mod_46 hmo rfl ⟨rfl, rfl, (Nat.le_of_ble_eq_true rfl), (Nat.le_of_ble_eq_true rfl)⟩ rfl hl.1 rfl (Nat.le_of_ble_eq_true rfl) dX7_draft_26 ⟨(Nat.le_of_ble_eq_true rfl), (Nat.le_of_ble_eq_true rfl)⟩) hS (fun r F38 H locs hho26 hP hS => ?_)
    obtain ⟨eho26, hro⟩ := hho26
    have hG39 : F38 dA = some (ah_ai D 8 df) := by rw [eho26]; exact ah_keep hmo hdA rfl
    have hG40 : F38 tA = some (ah_az D 40 tf) := by rw [eho26]; exact ah_keep hmo htA rfl
    have hG41 : F38 lA = some (ah_ai D 40 lf) := by rw [eho26]; exact ah_keep hmo hlA rfl
    have hG42 : F38 eA = some (ah_ai D 320 ef) := by rw [eho26]; exact ah_keep hmo heA rfl
    have hG43 : F38 nlA = some (ah_ai D 40 nlf) := by rw [eho26]; exact ah_keep hmo hnlA rfl
    have hG44 : F38 neA = some (ah_ai D 320 nef) := by rw [eho26]; exact ah_keep hmo hneA rfl
    have hG45 : F38 sA = some (ah_ai D 200 sf) := by rw [eho26]; exact ah_keep hmo hsA rfl
    have hG46 : F38 mo = some (.inr (7, [.int (nI 1), .ref dA, .int (nI dr.length), .int (nI n), .ref tA, .ref lA, .ref eA, .ref nlA, .ref neA, .ref sA, .int (nI S.length), .int td, .int ip, .int il])) := by rw [eho26]; exact ah_up_s _ _ _
    subst hro
    refine ah_ifb_ne (tgt := 34) hx hb dX7_draft_29 (by decide) (fun hc29 => ?_) (fun hc29 => ?_)
    · skip
      exact absurd hc29 (by decide)
    · skip
      refine lv_iconst (v := (nI 0)) hx hb dX7_draft_32 (by decide) ?_
      rw [hQ]
      exact ah_iret E hr hP hS (md_An_i (k := 1) (v := 0) (by rw [sp_draft, if_pos (by omega)]) ⟨dA, tA, lA, eA, nlA, neA, sA, _, _, ln, _, _, _, _, _, _, _, hG46, hG39, hG40, hG41, hG42, hG43, hG44, hG45, hne1, hne2, hne3, hne4, hL⟩ (fun h => absurd h (by decide))) (Nat.le_of_ble_eq_true rfl) (Nat.le_of_ble_eq_true rfl) dX7_draft_33

set_option maxHeartbeats 4000000 in
set_option maxRecDepth 100000 in
/-- takeOut -/
theorem m_takeOut (l : Launch) (A : Nat → Prop) (D : ah_G) (F : ah_F) {mo n : Nat} {P : ah_Pt} {dr S : List Nat} {td th : Int32} (hC : md_C D F mo P n dr S td th) {v0 : Int32} : Met l yX7_takeOut (Cond.code yX7_takeOut cX7_takeOut 2 (some .int) :: ah_T) { frames := 2, cells := 0, slots := 0, locals := 42 } (va_Pc [.ref mo, .int v0] (ah_B A D F)) (ah_Qi A D (fun (r : Int32) F1 => md_An D F1 mo (sp_takeOut P n dr S td v0) r)) 0 0 A := by
  refine ah_met (own := "AhoarchModel") (by decide) rfl (Nat.le_of_ble_eq_true rfl) ?_
  intro p e s m below meth c ls E hr hini hl hP hS Q hQ
  have hx := E.1
  have hb := E.2.1
  have hl : lv_has ls 2 [(0, .ref mo), (1, .int v0)] := hl
  obtain ⟨dA, tA, lA, eA, nlA, neA, sA, ip, il, ln, df, tf, lf, ef, nlf, nef, sf, hmo, hdA, htA, hlA, heA, hnlA, hneA, hsA, hne1, hne2, hne3, hne4, hL⟩ := id hC
  obtain ⟨hn40, hPn, hdok, hSl, hS200, hPok, hdis, hp20, hln, hlP, hdd, hss⟩ := id hL
  have hdl := hdok.1
  refine lv_aload_n hx hb dX7_takeOut_0 rfl (lv_at hl 0 rfl) ?_
  refine lv_iload_n hx hb dX7_takeOut_1 rfl (lv_at hl 1 rfl) ?_
  refine ah_calli (ah_runV E hP hS (As := [.int v0]) (rest := []) (b := mo) (m_isAsked l A D _ hmo hdA htA hlA heA hnlA hneA hsA hL (v0 := v0)) lk_Mod_60 li_Mod_60 hmo rfl ⟨rfl, rfl, (Nat.le_of_ble_eq_true rfl), (Nat.le_of_ble_eq_true rfl)⟩ rfl hl.1 rfl (Nat.le_of_ble_eq_true rfl) dX7_takeOut_2 ⟨(Nat.le_of_ble_eq_true rfl), (Nat.le_of_ble_eq_true rfl)⟩) hS (fun r F1 H locs hask hP hS => ?_)
  obtain ⟨eask, hro⟩ := hask
  have hG2 : F1 dA = some (ah_ai D 8 df) := by rw [eask]; exact ah_keep hmo hdA rfl
  have hG3 : F1 tA = some (ah_az D 40 tf) := by rw [eask]; exact ah_keep hmo htA rfl
  have hG4 : F1 lA = some (ah_ai D 40 lf) := by rw [eask]; exact ah_keep hmo hlA rfl
  have hG5 : F1 eA = some (ah_ai D 320 ef) := by rw [eask]; exact ah_keep hmo heA rfl
  have hG6 : F1 nlA = some (ah_ai D 40 nlf) := by rw [eask]; exact ah_keep hmo hnlA rfl
  have hG7 : F1 neA = some (ah_ai D 320 nef) := by rw [eask]; exact ah_keep hmo hneA rfl
  have hG8 : F1 sA = some (ah_ai D 200 sf) := by rw [eask]; exact ah_keep hmo hsA rfl
  have hG9 : F1 mo = some (.inr (7, [.int (nI (md_tn (ah_pi P v0).isSome)), .ref dA, .int (nI dr.length), .int (nI n), .ref tA, .ref lA, .ref eA, .ref nlA, .ref neA, .ref sA, .int (nI S.length), .int td, .int ip, .int il])) := by rw [eask]; exact ah_up_s _ _ _
  subst hro
  refine ah_ifb_ne (tgt := 10) hx hb dX7_takeOut_5 (by decide) (fun hc5 => ?_) (fun hc5 => ?_)
  · skip
    have hth : md_tn (ah_pi P v0).isSome = 0 := by rw [hc5]; rfl
    rw [hth] at hG9
    obtain ⟨i, hpi⟩ := Option.isSome_iff_exists.mp hc5
    obtain ⟨hi40, hvi, hPs⟩ := ah_pi_lt hpi
    obtain ⟨⟨w, r0⟩, hPi⟩ := Option.isSome_iff_exists.mp hPs
    have hin := md_lt hPn hPs
    obtain ⟨hl8, hlf, htf⟩ := hln i hin
    obtain ⟨hlw, hew, hnl, hnew⟩ := hlP i w r0 hPi
    obtain ⟨hok, hokr, hnw⟩ := hPok i w r0 hPi
    have hwl := hok.1
    have hrl := hokr.1
    rw [hvi] at hl
    have hL2 := md_L_del hL hin hPs
    refine lv_aload_n hx hb dX7_takeOut_10 rfl (lv_at hl 0 rfl) ?_
    refine gf_Mod_13 E hP hG9 rfl dX7_takeOut_11 ?_
    refine lv_iload_n hx hb dX7_takeOut_14 rfl (lv_at hl 1 rfl) ?_
    refine lv_iconst (v := (nI 0)) hx hb dX7_takeOut_15 (by decide) ?_
    refine ah_zast E hP hS hG3 (by omega) (by omega) (by decide) dX7_takeOut_16 (fun H locs hP hS => ?_)
    obtain ⟨F10, eF10⟩ : ∃ Fz : ah_F, Fz = ah_up F1 tA (ah_az D 40 (upd tf i (nI 0))) := ⟨_, rfl⟩
    have hP : ah_K A D F10 H := by rw [eF10]; exact hP
    have hF11 : F10 tA = some (ah_az D 40 (upd tf i (nI 0))) := by rw [eF10]; exact ah_up_s _ _ _
    have hF12 : F10 dA = some (ah_ai D 8 df) := by rw [eF10]; exact ah_keep hG3 hG2 rfl
    have hF13 : F10 lA = some (ah_ai D 40 lf) := by rw [eF10]; exact (ah_up_n _ _ (Ne.symm hne3)).trans hG4
    have hF14 : F10 eA = some (ah_ai D 320 ef) := by rw [eF10]; exact ah_keep hG3 hG5 rfl
    have hF15 : F10 nlA = some (ah_ai D 40 nlf) := by rw [eF10]; exact (ah_up_n _ _ (Ne.symm hne4)).trans hG6
    have hF16 : F10 neA = some (ah_ai D 320 nef) := by rw [eF10]; exact ah_keep hG3 hG7 rfl
    have hF17 : F10 sA = some (ah_ai D 200 sf) := by rw [eF10]; exact ah_keep hG3 hG8 rfl
    have hF18 : F10 mo = some (.inr (7, [.int (nI 0), .ref dA, .int (nI dr.length), .int (nI n), .ref tA, .ref lA, .ref eA, .ref nlA, .ref neA, .ref sA, .int (nI S.length), .int td, .int ip, .int il])) := by rw [eF10]; exact ah_keep hG3 hG9 rfl
    refine lv_aload_n hx hb dX7_takeOut_17 rfl (lv_at hl 0 rfl) ?_
    refine ah_calli (ah_runV E hP hS (As := []) (rest := []) (b := mo) (m_patternsNow l A D _ hF18 hF12 hF11 hF13 hF14 hF15 hF16 hF17 hL2) lk_Mod_50 li_Mod_50 hF18 rfl ⟨rfl, rfl, (Nat.le_of_ble_eq_true rfl), (Nat.le_of_ble_eq_true rfl)⟩ rfl hl.1 rfl (Nat.le_of_ble_eq_true rfl) dX7_takeOut_18 ⟨(Nat.le_of_ble_eq_true rfl), (Nat.le_of_ble_eq_true rfl)⟩) hS (fun r F19 H locs hq hP hS => ?_)
    obtain ⟨rfl, rfl⟩ := hq
    rw [hQ]
    exact ah_iret E hr hP hS (md_An_i (k := 0) (v := nI (pu_cn (fun j => (ah_del P i j).isSome) 40)) (by simp only [sp_takeOut, hpi]) ⟨dA, tA, lA, eA, nlA, neA, sA, _, _, ln, _, _, _, _, _, _, _, hF18, hF12, hF11, hF13, hF14, hF15, hF16, hF17, hne1, hne2, hne3, hne4, hL2⟩ (fun _ => rfl)) (Nat.le_of_ble_eq_true rfl) (Nat.le_of_ble_eq_true rfl) dX7_takeOut_21
  · skip
    have hnone := md_none hc5
    have hth : md_tn (ah_pi P v0).isSome = 1 := by rw [hc5]; rfl
    rw [hth] at hG9
    refine lv_iconst (v := (nI 0)) hx hb dX7_takeOut_8 (by decide) ?_
    rw [hQ]
    exact ah_iret E hr hP hS (md_An_i (k := 1) (v := 0) (by simp only [sp_takeOut, hnone]) ⟨dA, tA, lA, eA, nlA, neA, sA, _, _, ln, _, _, _, _, _, _, _, hG9, hG2, hG3, hG4, hG5, hG6, hG7, hG8, hne1, hne2, hne3, hne4, hL⟩ (fun h => absurd h (by decide))) (Nat.le_of_ble_eq_true rfl) (Nat.le_of_ble_eq_true rfl) dX7_takeOut_9

set_option maxHeartbeats 4000000 in
set_option maxRecDepth 100000 in
/-- feeds -/
theorem m_feeds (l : Launch) (A : Nat → Prop) (D : ah_G) (F : ah_F) {mo n : Nat} {P : ah_Pt} {dr S : List Nat} {td th : Int32} (hC : md_C D F mo P n dr S td th) {y : Nat} (hy1 : 1 ≤ y) (hy2 : y ≤ 26) (hl0 : S.length < 200) : Met l yX7_feeds (Cond.code yX7_feeds cX7_feeds 3 (some .int) :: ah_T) { frames := 2, cells := 0, slots := 0, locals := 47 } (va_Pc [.ref mo, .int (nI (y + 96))] (ah_B A D F)) (ah_Qi A D (fun (r : Int32) F1 => md_C D F1 mo P n dr (S ++ [y]) (td + r) th ∧ nI (ah_e1 P (S ++ [y])) = r)) 0 0 A := by
  refine ah_met (own := "AhoarchModel") (by decide) rfl (Nat.le_of_ble_eq_true rfl) ?_
  intro p e s m below meth c ls E hr hini hl hP hS Q hQ
  have hx := E.1
  have hb := E.2.1
  have hl : lv_has ls 3 [(0, .ref mo), (1, .int (nI (y + 96)))] := hl
  obtain ⟨dA, tA, lA, eA, nlA, neA, sA, ip, il, ln, df, tf, lf, ef, nlf, nef, sf, hmo, hdA, htA, hlA, heA, hnlA, hneA, hsA, hne1, hne2, hne3, hne4, hL⟩ := id hC
  obtain ⟨hn40, hPn, hdok, hSl, hS200, hPok, hdis, hp20, hln, hlP, hdd, hss⟩ := id hL
  have hdl := hdok.1
  have hL2 := md_L_sn hL hl0 hy1 hy2
  have hsl : (S ++ [y]).length = S.length + 1 := by rw [List.length_append]; rfl
  refine lv_aload_n hx hb dX7_feeds_0 rfl (lv_at hl 0 rfl) ?_
  refine gf_Mod_29 E hP hmo rfl dX7_feeds_1 ?_
  refine lv_aload_n hx hb dX7_feeds_4 rfl (lv_at hl 0 rfl) ?_
  refine gf_Mod_67 E hP hmo rfl dX7_feeds_5 ?_
  refine lv_iload_n hx hb dX7_feeds_8 rfl (lv_at hl 1 rfl) ?_
  refine ah_iast E hP hS hsA (by omega) (by omega) dX7_feeds_9 (fun H locs hP hS => ?_)
  obtain ⟨F1, eF1⟩ : ∃ Fz : ah_F, Fz = ah_up F sA (ah_ai D 200 (upd sf S.length (nI (y + 96)))) := ⟨_, rfl⟩
  have hP : ah_K A D F1 H := by rw [eF1]; exact hP
  have hF2 : F1 sA = some (ah_ai D 200 (upd sf S.length (nI (y + 96)))) := by rw [eF1]; exact ah_up_s _ _ _
  have hF3 : F1 mo = some (.inr (7, [.int th, .ref dA, .int (nI dr.length), .int (nI n), .ref tA, .ref lA, .ref eA, .ref nlA, .ref neA, .ref sA, .int (nI S.length), .int td, .int ip, .int il])) := by rw [eF1]; exact ah_keep hsA hmo rfl
  have hF4 : F1 dA = some (ah_ai D 8 df) := by rw [eF1]; exact ah_keep hsA hdA rfl
  have hF5 : F1 tA = some (ah_az D 40 tf) := by rw [eF1]; exact ah_keep hsA htA rfl
  have hF6 : F1 lA = some (ah_ai D 40 lf) := by rw [eF1]; exact ah_keep hsA hlA rfl
  have hF7 : F1 eA = some (ah_ai D 320 ef) := by rw [eF1]; exact ah_keep hsA heA rfl
  have hF8 : F1 nlA = some (ah_ai D 40 nlf) := by rw [eF1]; exact ah_keep hsA hnlA rfl
  have hF9 : F1 neA = some (ah_ai D 320 nef) := by rw [eF1]; exact ah_keep hsA hneA rfl
  refine lv_aload_n hx hb dX7_feeds_10 rfl (lv_at hl 0 rfl) ?_
  refine lv_dup hx hb dX7_feeds_11 rfl ?_
  refine gf_Mod_67 E hP hF3 rfl dX7_feeds_12 ?_
  refine lv_iconst (v := (nI 1)) hx hb dX7_feeds_15 (by decide) ?_
  refine ah_iadd hx hb dX7_feeds_16 ?_
  refine pf_Mod_67 E hP hS hF3 (Nat.le_of_ble_eq_true rfl) dX7_feeds_17 (fun H locs hP hS => ?_)
  obtain ⟨F10, eF10⟩ : ∃ Fz : ah_F, Fz = ah_up F1 mo (.inr (7, [.int th, .ref dA, .int (nI dr.length), .int (nI n), .ref tA, .ref lA, .ref eA, .ref nlA, .ref neA, .ref sA, .int (nI (S.length + 1)), .int td, .int ip, .int il])) := ⟨_, rfl⟩
  have hP : ah_K A D F10 H := by rw [eF10]; exact hP
  have hF11 : F10 mo = some (.inr (7, [.int th, .ref dA, .int (nI dr.length), .int (nI n), .ref tA, .ref lA, .ref eA, .ref nlA, .ref neA, .ref sA, .int (nI (S.length + 1)), .int td, .int ip, .int il])) := by rw [eF10]; exact ah_up_s _ _ _
  have hF12 : F10 dA = some (ah_ai D 8 df) := by rw [eF10]; exact ah_keep hF3 hF4 rfl
  have hF13 : F10 tA = some (ah_az D 40 tf) := by rw [eF10]; exact ah_keep hF3 hF5 rfl
  have hF14 : F10 lA = some (ah_ai D 40 lf) := by rw [eF10]; exact ah_keep hF3 hF6 rfl
  have hF15 : F10 eA = some (ah_ai D 320 ef) := by rw [eF10]; exact ah_keep hF3 hF7 rfl
  have hF16 : F10 nlA = some (ah_ai D 40 nlf) := by rw [eF10]; exact ah_keep hF3 hF8 rfl
  have hF17 : F10 neA = some (ah_ai D 320 nef) := by rw [eF10]; exact ah_keep hF3 hF9 rfl
  have hF18 : F10 sA = some (ah_ai D 200 (upd sf S.length (nI (y + 96)))) := by rw [eF10]; exact ah_keep hF3 hF2 rfl
  refine lv_aload_n hx hb dX7_feeds_20 rfl (lv_at hl 0 rfl) ?_
  refine lv_aload_n hx hb dX7_feeds_21 rfl (lv_at hl 0 rfl) ?_
  have hmo9 := hF11
  rw [← hsl] at hmo9
  refine gf_Mod_67 E hP hmo9 rfl dX7_feeds_22 ?_
  refine ah_calli (ah_runV E hP hS (As := [.int (nI ((S ++ [y]).length))]) (rest := []) (b := mo) (m_endingAt l A D _ hmo9 hF12 hF13 hF14 hF15 hF16 hF17 hF18 hL2 (e0 := (S ++ [y]).length) (Nat.le_refl _)) lk_Mod_74 li_Mod_74 hmo9 rfl ⟨rfl, rfl, (Nat.le_of_ble_eq_true rfl), (Nat.le_of_ble_eq_true rfl)⟩ rfl hl.1 rfl (Nat.le_of_ble_eq_true rfl) dX7_feeds_25 ⟨(Nat.le_of_ble_eq_true rfl), (Nat.le_of_ble_eq_true rfl)⟩) hS (fun r F19 H locs hq hP hS => ?_)
  obtain ⟨rfl, rfl⟩ := hq
  refine lv_istore_n (lv' := [(2, .int (nI (ah_e1 P (S ++ [y])))), (0, .ref mo), (1, .int (nI (y + 96)))]) hx hb dX7_feeds_28 rfl hl (by decide) rfl (fun ls hl => ?_)
  refine lv_aload_n hx hb dX7_feeds_29 rfl (lv_at hl 1 rfl) ?_
  refine lv_dup hx hb dX7_feeds_30 rfl ?_
  refine gf_Mod_78 E hP hmo9 rfl dX7_feeds_31 ?_
  refine lv_iload_n hx hb dX7_feeds_34 rfl (lv_at hl 0 rfl) ?_
  refine lv_iadd hx hb dX7_feeds_35 ?_
  refine pf_Mod_78 E hP hS hmo9 (Nat.le_of_ble_eq_true rfl) dX7_feeds_36 (fun H locs hP hS => ?_)
  obtain ⟨F20, eF20⟩ : ∃ Fz : ah_F, Fz = ah_up F10 mo (.inr (7, [.int th, .ref dA, .int (nI dr.length), .int (nI n), .ref tA, .ref lA, .ref eA, .ref nlA, .ref neA, .ref sA, .int (nI ((S ++ [y]).length)), .int (td + (nI (ah_e1 P (S ++ [y])))), .int ip, .int il])) := ⟨_, rfl⟩
  have hP : ah_K A D F20 H := by rw [eF20]; exact hP
  have hF21 : F20 mo = some (.inr (7, [.int th, .ref dA, .int (nI dr.length), .int (nI n), .ref tA, .ref lA, .ref eA, .ref nlA, .ref neA, .ref sA, .int (nI ((S ++ [y]).length)), .int (td + (nI (ah_e1 P (S ++ [y])))), .int ip, .int il])) := by rw [eF20]; exact ah_up_s _ _ _
  have hF22 : F20 dA = some (ah_ai D 8 df) := by rw [eF20]; exact ah_keep hmo9 hF12 rfl
  have hF23 : F20 tA = some (ah_az D 40 tf) := by rw [eF20]; exact ah_keep hmo9 hF13 rfl
  have hF24 : F20 lA = some (ah_ai D 40 lf) := by rw [eF20]; exact ah_keep hmo9 hF14 rfl
  have hF25 : F20 eA = some (ah_ai D 320 ef) := by rw [eF20]; exact ah_keep hmo9 hF15 rfl
  have hF26 : F20 nlA = some (ah_ai D 40 nlf) := by rw [eF20]; exact ah_keep hmo9 hF16 rfl
  have hF27 : F20 neA = some (ah_ai D 320 nef) := by rw [eF20]; exact ah_keep hmo9 hF17 rfl
  have hF28 : F20 sA = some (ah_ai D 200 (upd sf S.length (nI (y + 96)))) := by rw [eF20]; exact ah_keep hmo9 hF18 rfl
  refine lv_iload_n hx hb dX7_feeds_39 rfl (lv_at hl 0 rfl) ?_
  rw [hQ]
  exact ah_iret E hr hP hS ⟨⟨dA, tA, lA, eA, nlA, neA, sA, _, _, ln, _, _, _, _, _, _, _, hF21, hF22, hF23, hF24, hF25, hF26, hF27, hF28, hne1, hne2, hne3, hne4, hL2⟩, rfl⟩ (Nat.le_of_ble_eq_true rfl) (Nat.le_of_ble_eq_true rfl) dX7_feeds_40

set_option maxHeartbeats 4000000 in
set_option maxRecDepth 100000 in
/-- feed -/
theorem m_feed (l : Launch) (A : Nat → Prop) (D : ah_G) (F : ah_F) {mo n : Nat} {P : ah_Pt} {dr S : List Nat} {td th : Int32} (hC : md_C D F mo P n dr S td th) {cv : Nat} (hcv : cv < 65536) : Met l yX7_feed (Cond.code yX7_feed cX7_feed 2 (some .int) :: ah_T) { frames := 3, cells := 0, slots := 0, locals := 69 } (va_Pc [.ref mo, .int (nI cv)] (ah_B A D F)) (ah_Qi A D (fun (r : Int32) F1 => md_An D F1 mo (sp_feed P n dr S td cv) r)) 0 0 A := by
  refine ah_met (own := "AhoarchModel") (by decide) rfl (Nat.le_of_ble_eq_true rfl) ?_
  intro p e s m below meth c ls E hr hini hl hP hS Q hQ
  have hx := E.1
  have hb := E.2.1
  have hl : lv_has ls 2 [(0, .ref mo), (1, .int (nI cv))] := hl
  obtain ⟨dA, tA, lA, eA, nlA, neA, sA, ip, il, ln, df, tf, lf, ef, nlf, nef, sf, hmo, hdA, htA, hlA, heA, hnlA, hneA, hsA, hne1, hne2, hne3, hne4, hL⟩ := id hC
  obtain ⟨hn40, hPn, hdok, hSl, hS200, hPok, hdis, hp20, hln, hlP, hdd, hss⟩ := id hL
  have hdl := hdok.1
  refine lv_aload_n hx hb dX7_feed_0 rfl (lv_at hl 0 rfl) ?_
  refine lv_iload_n hx hb dX7_feed_1 rfl (lv_at hl 1 rfl) ?_
  refine ah_calli (ah_runS E hP hS (As := [.int (nI cv)]) (rest := [.ref mo]) (m_isLetter l A D _ hcv) lk_Mod_39 li_Mod_39 ⟨rfl, rfl, (Nat.le_of_ble_eq_true rfl), (Nat.le_of_ble_eq_true rfl)⟩ rfl hl.1 rfl (Nat.le_of_ble_eq_true rfl) dX7_feed_2 ⟨(Nat.le_of_ble_eq_true rfl), (Nat.le_of_ble_eq_true rfl)⟩) hS (fun r F1 H locs hq hP hS => ?_)
  obtain ⟨rfl, rfl⟩ := hq
  refine ah_ifb_ne (tgt := 12) hx hb dX7_feed_5 (by decide) (fun hc5 => ?_) (fun hc5 => ?_)
  · skip
    have hcl := of_decide_eq_true hc5
    refine lv_aload_n hx hb dX7_feed_12 rfl (lv_at hl 0 rfl) ?_
    refine gf_Mod_67 E hP hmo rfl dX7_feed_13 ?_
    refine lv_sipush (v := (nI 200)) hx hb dX7_feed_16 (by decide) ?_
    refine ah_icmp_ne (tgt := 26) hx hb (by omega) (by omega) dX7_feed_19 (by decide) (fun hc19 => ?_) (fun hc19 => ?_)
    · skip
      refine lv_iconst (v := (nI 0)) hx hb dX7_feed_26 (by decide) ?_
      refine ah_calli (ah_runV E hP hS (As := [.int (nI 0)]) (rest := []) (b := mo) (m_holds l A D _ hmo hdA htA hlA heA hnlA hneA hsA hL (k := 0) (by omega)) lk_Mod_46 li_Mod_46 hmo rfl ⟨rfl, rfl, (Nat.le_of_ble_eq_true rfl), (Nat.le_of_ble_eq_true rfl)⟩ rfl hl.1 rfl (Nat.le_of_ble_eq_true rfl) dX7_feed_27 ⟨(Nat.le_of_ble_eq_true rfl), (Nat.le_of_ble_eq_true rfl)⟩) hS (fun r F2 H locs hho27 hP hS => ?_)
      obtain ⟨eho27, hro⟩ := hho27
      have hG3 : F2 dA = some (ah_ai D 8 df) := by rw [eho27]; exact ah_keep hmo hdA rfl
      have hG4 : F2 tA = some (ah_az D 40 tf) := by rw [eho27]; exact ah_keep hmo htA rfl
      have hG5 : F2 lA = some (ah_ai D 40 lf) := by rw [eho27]; exact ah_keep hmo hlA rfl
      have hG6 : F2 eA = some (ah_ai D 320 ef) := by rw [eho27]; exact ah_keep hmo heA rfl
      have hG7 : F2 nlA = some (ah_ai D 40 nlf) := by rw [eho27]; exact ah_keep hmo hnlA rfl
      have hG8 : F2 neA = some (ah_ai D 320 nef) := by rw [eho27]; exact ah_keep hmo hneA rfl
      have hG9 : F2 sA = some (ah_ai D 200 sf) := by rw [eho27]; exact ah_keep hmo hsA rfl
      have hG10 : F2 mo = some (.inr (7, [.int (nI 0), .ref dA, .int (nI dr.length), .int (nI n), .ref tA, .ref lA, .ref eA, .ref nlA, .ref neA, .ref sA, .int (nI S.length), .int td, .int ip, .int il])) := by rw [eho27]; exact ah_up_s _ _ _
      subst hro
      refine ah_ifb_ne (tgt := 35) hx hb dX7_feed_30 (by decide) (fun hc30 => ?_) (fun hc30 => ?_)
      · skip
        obtain ⟨y, hcy⟩ : ∃ y, cv = y + 96 := ⟨cv - 96, by omega⟩
        rw [hcy] at hl
        have hC2 : md_C D F2 mo P n dr S td (nI 0) := ⟨dA, tA, lA, eA, nlA, neA, sA, _, _, ln, _, _, _, _, _, _, _, hG10, hG3, hG4, hG5, hG6, hG7, hG8, hG9, hne1, hne2, hne3, hne4, hL⟩
        refine lv_aload_n hx hb dX7_feed_35 rfl (lv_at hl 0 rfl) ?_
        refine lv_iload_n hx hb dX7_feed_36 rfl (lv_at hl 1 rfl) ?_
        refine ah_calli (ah_runV E hP hS (As := [.int (nI (y + 96))]) (rest := []) (b := mo) (m_feeds l A D _ hC2 (y := y) (by omega) (by omega) (by omega)) lk_Mod_81 li_Mod_81 hG10 rfl ⟨rfl, rfl, (Nat.le_of_ble_eq_true rfl), (Nat.le_of_ble_eq_true rfl)⟩ rfl hl.1 rfl (Nat.le_of_ble_eq_true rfl) dX7_feed_37 ⟨(Nat.le_of_ble_eq_true rfl), (Nat.le_of_ble_eq_true rfl)⟩) hS (fun r F11 H locs hfd hP hS => ?_)
        obtain ⟨hC3, hfr⟩ := hfd
        rw [hQ]
        exact ah_iret E hr hP hS (md_An_i (k := 0) (v := r) (by rw [sp_feed, if_neg (by omega), if_neg (by omega), show cv - 96 = y by omega, hfr]) hC3 (fun _ => rfl)) (Nat.le_of_ble_eq_true rfl) (Nat.le_of_ble_eq_true rfl) dX7_feed_40
      · skip
        exact absurd hc30 (by decide)
    · skip
      refine lv_iconst (v := (nI 2)) hx hb dX7_feed_22 (by decide) ?_
      refine lv_goto (tgt := 27) hx hb dX7_feed_23 (by decide) ?_
      refine ah_calli (ah_runV E hP hS (As := [.int (nI 2)]) (rest := []) (b := mo) (m_holds l A D _ hmo hdA htA hlA heA hnlA hneA hsA hL (k := 2) (by omega)) lk_Mod_46 li_Mod_46 hmo rfl ⟨rfl, rfl, (Nat.le_of_ble_eq_true rfl), (Nat.le_of_ble_eq_true rfl)⟩ rfl hl.1 rfl (Nat.le_of_ble_eq_true rfl) dX7_feed_27 ⟨(Nat.le_of_ble_eq_true rfl), (Nat.le_of_ble_eq_true rfl)⟩) hS (fun r F12 H locs hho27 hP hS => ?_)
      obtain ⟨eho27, hro⟩ := hho27
      have hG13 : F12 dA = some (ah_ai D 8 df) := by rw [eho27]; exact ah_keep hmo hdA rfl
      have hG14 : F12 tA = some (ah_az D 40 tf) := by rw [eho27]; exact ah_keep hmo htA rfl
      have hG15 : F12 lA = some (ah_ai D 40 lf) := by rw [eho27]; exact ah_keep hmo hlA rfl
      have hG16 : F12 eA = some (ah_ai D 320 ef) := by rw [eho27]; exact ah_keep hmo heA rfl
      have hG17 : F12 nlA = some (ah_ai D 40 nlf) := by rw [eho27]; exact ah_keep hmo hnlA rfl
      have hG18 : F12 neA = some (ah_ai D 320 nef) := by rw [eho27]; exact ah_keep hmo hneA rfl
      have hG19 : F12 sA = some (ah_ai D 200 sf) := by rw [eho27]; exact ah_keep hmo hsA rfl
      have hG20 : F12 mo = some (.inr (7, [.int (nI 2), .ref dA, .int (nI dr.length), .int (nI n), .ref tA, .ref lA, .ref eA, .ref nlA, .ref neA, .ref sA, .int (nI S.length), .int td, .int ip, .int il])) := by rw [eho27]; exact ah_up_s _ _ _
      subst hro
      refine ah_ifb_ne (tgt := 35) hx hb dX7_feed_30 (by decide) (fun hc30 => ?_) (fun hc30 => ?_)
      · skip
        exact absurd hc30 (by decide)
      · skip
        refine lv_iconst (v := (nI 0)) hx hb dX7_feed_33 (by decide) ?_
        rw [hQ]
        exact ah_iret E hr hP hS (md_An_i (k := 2) (v := 0) (by rw [sp_feed, if_neg (by omega), if_pos (by omega)]) ⟨dA, tA, lA, eA, nlA, neA, sA, _, _, ln, _, _, _, _, _, _, _, hG20, hG13, hG14, hG15, hG16, hG17, hG18, hG19, hne1, hne2, hne3, hne4, hL⟩ (fun h => absurd h (by decide))) (Nat.le_of_ble_eq_true rfl) (Nat.le_of_ble_eq_true rfl) dX7_feed_34
  · skip
    have hcl := of_decide_eq_false hc5
    refine lv_iconst (v := (nI 1)) hx hb dX7_feed_8 (by decide) ?_
    refine lv_goto (tgt := 27) hx hb dX7_feed_9 (by decide) ?_
    refine ah_calli (ah_runV E hP hS (As := [.int (nI 1)]) (rest := []) (b := mo) (m_holds l A D _ hmo hdA htA hlA heA hnlA hneA hsA hL (k := 1) (by omega)) lk_Mod_46 li_Mod_46 hmo rfl ⟨rfl, rfl, (Nat.le_of_ble_eq_true rfl), (Nat.le_of_ble_eq_true rfl)⟩ rfl hl.1 rfl (Nat.le_of_ble_eq_true rfl) dX7_feed_27 ⟨(Nat.le_of_ble_eq_true rfl), (Nat.le_of_ble_eq_true rfl)⟩) hS (fun r F21 H locs hho27 hP hS => ?_)
    obtain ⟨eho27, hro⟩ := hho27
    have hG22 : F21 dA = some (ah_ai D 8 df) := by rw [eho27]; exact ah_keep hmo hdA rfl
    have hG23 : F21 tA = some (ah_az D 40 tf) := by rw [eho27]; exact ah_keep hmo htA rfl
    have hG24 : F21 lA = some (ah_ai D 40 lf) := by rw [eho27]; exact ah_keep hmo hlA rfl
    have hG25 : F21 eA = some (ah_ai D 320 ef) := by rw [eho27]; exact ah_keep hmo heA rfl
    have hG26 : F21 nlA = some (ah_ai D 40 nlf) := by rw [eho27]; exact ah_keep hmo hnlA rfl
    have hG27 : F21 neA = some (ah_ai D 320 nef) := by rw [eho27]; exact ah_keep hmo hneA rfl
    have hG28 : F21 sA = some (ah_ai D 200 sf) := by rw [eho27]; exact ah_keep hmo hsA rfl
    have hG29 : F21 mo = some (.inr (7, [.int (nI 1), .ref dA, .int (nI dr.length), .int (nI n), .ref tA, .ref lA, .ref eA, .ref nlA, .ref neA, .ref sA, .int (nI S.length), .int td, .int ip, .int il])) := by rw [eho27]; exact ah_up_s _ _ _
    subst hro
    refine ah_ifb_ne (tgt := 35) hx hb dX7_feed_30 (by decide) (fun hc30 => ?_) (fun hc30 => ?_)
    · skip
      exact absurd hc30 (by decide)
    · skip
      refine lv_iconst (v := (nI 0)) hx hb dX7_feed_33 (by decide) ?_
      rw [hQ]
      exact ah_iret E hr hP hS (md_An_i (k := 1) (v := 0) (by rw [sp_feed, if_pos (by omega)]) ⟨dA, tA, lA, eA, nlA, neA, sA, _, _, ln, _, _, _, _, _, _, _, hG29, hG22, hG23, hG24, hG25, hG26, hG27, hG28, hne1, hne2, hne3, hne4, hL⟩ (fun h => absurd h (by decide))) (Nat.le_of_ble_eq_true rfl) (Nat.le_of_ble_eq_true rfl) dX7_feed_34

set_option maxHeartbeats 4000000 in
set_option maxRecDepth 100000 in
/-- feedPattern -/
theorem m_feedPattern (l : Launch) (A : Nat → Prop) (D : ah_G) (F : ah_F) {mo n : Nat} {P : ah_Pt} {dr S : List Nat} {td th : Int32} (hC : md_C D F mo P n dr S td th) {v0 : Int32} : Met l yX7_feedPattern (Cond.code yX7_feedPattern cX7_feedPattern 5 (some .int) :: ah_T) { frames := 3, cells := 0, slots := 0, locals := 69 } (va_Pc [.ref mo, .int v0] (ah_B A D F)) (ah_Qi A D (fun (r : Int32) F1 => md_An D F1 mo (sp_feedPattern P n dr S td v0) r)) 0 0 A := by
  refine ah_met (own := "AhoarchModel") (by decide) rfl (Nat.le_of_ble_eq_true rfl) ?_
  intro p e s m below meth c ls E hr hini hl hP hS Q hQ
  have hx := E.1
  have hb := E.2.1
  have hl : lv_has ls 5 [(0, .ref mo), (1, .int v0)] := hl
  obtain ⟨dA, tA, lA, eA, nlA, neA, sA, ip, il, ln, df, tf, lf, ef, nlf, nef, sf, hmo, hdA, htA, hlA, heA, hnlA, hneA, hsA, hne1, hne2, hne3, hne4, hL⟩ := id hC
  obtain ⟨hn40, hPn, hdok, hSl, hS200, hPok, hdis, hp20, hln, hlP, hdd, hss⟩ := id hL
  have hdl := hdok.1
  refine lv_aload_n hx hb dX7_feedPattern_0 rfl (lv_at hl 0 rfl) ?_
  refine lv_iload_n hx hb dX7_feedPattern_1 rfl (lv_at hl 1 rfl) ?_
  refine ah_calli (ah_runV E hP hS (As := [.int v0]) (rest := []) (b := mo) (m_isPattern l A D _ hmo hdA htA hlA heA hnlA hneA hsA hL (v0 := v0)) lk_Mod_57 li_Mod_57 hmo rfl ⟨rfl, rfl, (Nat.le_of_ble_eq_true rfl), (Nat.le_of_ble_eq_true rfl)⟩ rfl hl.1 rfl (Nat.le_of_ble_eq_true rfl) dX7_feedPattern_2 ⟨(Nat.le_of_ble_eq_true rfl), (Nat.le_of_ble_eq_true rfl)⟩) hS (fun r F1 H locs hq hP hS => ?_)
  obtain ⟨rfl, rfl⟩ := hq
  refine lv_istore_n (lv' := [(2, .int (bI_ ((ah_pi P v0).isSome))), (0, .ref mo), (1, .int v0)]) hx hb dX7_feedPattern_5 rfl hl (by decide) rfl (fun ls hl => ?_)
  refine lv_aload_n hx hb dX7_feedPattern_6 rfl (lv_at hl 1 rfl) ?_
  refine lv_iload_n hx hb dX7_feedPattern_7 rfl (lv_at hl 0 rfl) ?_
  refine ah_ifb_ne (tgt := 15) hx hb dX7_feedPattern_8 (by decide) (fun hc8 => ?_) (fun hc8 => ?_)
  · skip
    have hcY := hc8
    obtain ⟨i, hpi⟩ := Option.isSome_iff_exists.mp hcY
    obtain ⟨hi40, hvi, hPs⟩ := ah_pi_lt hpi
    obtain ⟨⟨w, r0⟩, hPi⟩ := Option.isSome_iff_exists.mp hPs
    have hin := md_lt hPn hPs
    obtain ⟨hl8, hlf, htf⟩ := hln i hin
    obtain ⟨hlw, hew, hnl, hnew⟩ := hlP i w r0 hPi
    obtain ⟨hok, hokr, hnw⟩ := hPok i w r0 hPi
    have hwl := hok.1
    have hrl := hokr.1
    have hwb := ah_getD_le hok.2
    rw [hvi] at hl
    refine lv_aload_n hx hb dX7_feedPattern_15 rfl (lv_at hl 1 rfl) ?_
    refine gf_Mod_67 E hP hmo rfl dX7_feedPattern_16 ?_
    refine lv_aload_n hx hb dX7_feedPattern_19 rfl (lv_at hl 1 rfl) ?_
    refine gf_Mod_17 E hP hmo rfl dX7_feedPattern_20 ?_
    refine lv_iload_n hx hb dX7_feedPattern_23 rfl (lv_at hl 2 rfl) ?_
    refine ah_iald E hP hlA (by omega) (by omega) dX7_feedPattern_24 ?_
    rw [hlf, hlw]
    refine ah_iadd hx hb dX7_feedPattern_25 ?_
    refine lv_sipush (v := (nI 200)) hx hb dX7_feedPattern_26 (by decide) ?_
    refine ah_icmp_le (tgt := 36) hx hb (by omega) (by omega) dX7_feedPattern_29 (by decide) (fun hc29 => ?_) (fun hc29 => ?_)
    · skip
      refine lv_iconst (v := (nI 0)) hx hb dX7_feedPattern_36 (by decide) ?_
      refine ah_calli (ah_runV E hP hS (As := [.int (nI 0)]) (rest := []) (b := mo) (m_holds l A D _ hmo hdA htA hlA heA hnlA hneA hsA hL (k := 0) (by omega)) lk_Mod_46 li_Mod_46 hmo rfl ⟨rfl, rfl, (Nat.le_of_ble_eq_true rfl), (Nat.le_of_ble_eq_true rfl)⟩ rfl hl.1 rfl (Nat.le_of_ble_eq_true rfl) dX7_feedPattern_37 ⟨(Nat.le_of_ble_eq_true rfl), (Nat.le_of_ble_eq_true rfl)⟩) hS (fun r F2 H locs hho37 hP hS => ?_)
      obtain ⟨eho37, hro⟩ := hho37
      have hG3 : F2 dA = some (ah_ai D 8 df) := by rw [eho37]; exact ah_keep hmo hdA rfl
      have hG4 : F2 tA = some (ah_az D 40 tf) := by rw [eho37]; exact ah_keep hmo htA rfl
      have hG5 : F2 lA = some (ah_ai D 40 lf) := by rw [eho37]; exact ah_keep hmo hlA rfl
      have hG6 : F2 eA = some (ah_ai D 320 ef) := by rw [eho37]; exact ah_keep hmo heA rfl
      have hG7 : F2 nlA = some (ah_ai D 40 nlf) := by rw [eho37]; exact ah_keep hmo hnlA rfl
      have hG8 : F2 neA = some (ah_ai D 320 nef) := by rw [eho37]; exact ah_keep hmo hneA rfl
      have hG9 : F2 sA = some (ah_ai D 200 sf) := by rw [eho37]; exact ah_keep hmo hsA rfl
      have hG10 : F2 mo = some (.inr (7, [.int (nI 0), .ref dA, .int (nI dr.length), .int (nI n), .ref tA, .ref lA, .ref eA, .ref nlA, .ref neA, .ref sA, .int (nI S.length), .int td, .int ip, .int il])) := by rw [eho37]; exact ah_up_s _ _ _
      subst hro
      refine ah_ifb_ne (tgt := 45) hx hb dX7_feedPattern_40 (by decide) (fun hc40 => ?_) (fun hc40 => ?_)
      · skip
        have hC2 : md_C D F2 mo P n dr S td (nI 0) := ⟨dA, tA, lA, eA, nlA, neA, sA, _, _, ln, _, _, _, _, _, _, _, hG10, hG3, hG4, hG5, hG6, hG7, hG8, hG9, hne1, hne2, hne3, hne4, hL⟩
        refine lv_iconst (v := (nI 0)) hx hb dX7_feedPattern_45 (by decide) ?_
        refine lv_istore_n (lv' := [(3, .int (nI 0)), (2, .int (bI_ ((ah_pi P (nI i)).isSome))), (0, .ref mo), (1, .int (nI i))]) hx hb dX7_feedPattern_46 rfl hl (by decide) rfl (fun ls hl => ?_)
        refine lv_iconst (v := (nI 0)) hx hb dX7_feedPattern_47 (by decide) ?_
        refine lv_istore (lv' := [(4, .int (nI 0)), (3, .int (nI 0)), (2, .int (bI_ ((ah_pi P (nI i)).isSome))), (0, .ref mo), (1, .int (nI i))]) hx hb dX7_feedPattern_48 hl (by decide) rfl (fun ls hl => ?_)
        have L50 : ∀ (fuel : Nat), ∀ (Fv : ah_F) (k a : Nat), w.length - k < fuel → k ≤ w.length → a = ah_fs P S w k → md_C D Fv mo P n dr (S ++ w.take k) (td + nI a) (nI 0) → ∀ (H : Heap) (locs : List Loc), ah_K A D Fv H → va_S A s.heap H locs → ∀ (ls : Array Slot), lv_has ls 5 [(0, .ref mo), (1, .int (nI i)), (3, .int (nI a)), (4, .int (nI k))] → W p l e { frames := 3, cells := 0, slots := 0, locals := 69 } s m [.ref mo, .int v0].toArray below meth c H locs ((0 + 0) + 0) ((0 + 0) + 0) Q (F0 m 50 ls []) := by
          intro fuel
          induction fuel with
          | zero =>
            intro Fv k a hm
            exact absurd hm (Nat.not_lt_zero _)
          | succ fuel ih =>
            intro Fv k a hm hk ha hCk H locs hP hS ls hl
            obtain ⟨dAv, tAv, lAv, eAv, nlAv, neAv, sAv, ipv, ilv, lnv, dfv, tfv, lfv, efv, nlfv, nefv, sfv, gmo, gdA, gtA, glA, geA, gnlA, gneA, gsA, -, -, -, -, gL⟩ := id hCk
            obtain ⟨-, -, -, -, -, -, -, -, glnv, glPv, -, -⟩ := id gL
            obtain ⟨-, glf, -⟩ := glnv i hin
            obtain ⟨glw, gew, -, -⟩ := glPv i w r0 hPi
            rw [glw] at glf
            have hsl : (S ++ w.take k).length = S.length + k := by rw [List.length_append, List.length_take]; omega
            have hb2 := ah_fs_le P S w k
            refine lv_iload hx hb dX7_feedPattern_50 (lv_at hl 3 rfl) ?_
            refine lv_aload_n hx hb dX7_feedPattern_52 rfl (lv_at hl 0 rfl) ?_
            refine gf_Mod_17 E hP gmo rfl dX7_feedPattern_53 ?_
            refine lv_iload_n hx hb dX7_feedPattern_56 rfl (lv_at hl 1 rfl) ?_
            refine ah_iald E hP glA (by omega) (by omega) dX7_feedPattern_57 ?_
            rw [glf]
            refine ah_icmp_ge (tgt := 86) hx hb (by omega) (by omega) dX7_feedPattern_58 (by decide) (fun hc58 => ?_) (fun hc58 => ?_)
            · skip
              refine lv_iload_n hx hb dX7_feedPattern_86 rfl (lv_at hl 2 rfl) ?_
              rw [hQ]
              exact ah_iret E hr hP hS (by rw [show k = w.length by omega] at ha hCk; rw [List.take_length] at hCk; exact md_An_i (k := 0) (v := nI a) (by simp only [sp_feedPattern, hpi, ah_w_s hPi]; rw [if_neg (by omega), ← ha]) hCk (fun _ => rfl)) (Nat.le_of_ble_eq_true rfl) (Nat.le_of_ble_eq_true rfl) dX7_feedPattern_87
            · skip
              refine lv_iload_n hx hb dX7_feedPattern_61 rfl (lv_at hl 2 rfl) ?_
              refine lv_aload_n hx hb dX7_feedPattern_62 rfl (lv_at hl 0 rfl) ?_
              refine lv_aload_n hx hb dX7_feedPattern_63 rfl (lv_at hl 0 rfl) ?_
              refine gf_Mod_20 E hP gmo rfl dX7_feedPattern_64 ?_
              refine lv_bipush (v := (nI 8)) hx hb dX7_feedPattern_67 (by decide) ?_
              refine lv_iload_n hx hb dX7_feedPattern_69 rfl (lv_at hl 1 rfl) ?_
              refine ah_imul hx hb dX7_feedPattern_70 ?_
              refine lv_iload hx hb dX7_feedPattern_71 (lv_at hl 3 rfl) ?_
              refine ah_iadd hx hb dX7_feedPattern_73 ?_
              refine ah_iald E hP geA (by omega) (by omega) dX7_feedPattern_74 ?_
              rw [gew k (by omega)]
              have hlt0 : 1 ≤ w.getD k 0 ∧ w.getD k 0 ≤ 26 := by rw [List.getD_eq_getElem?_getD, List.getElem?_eq_getElem (by omega)]; exact hok.2 _ (List.getElem_mem (by omega))
              have hsnoc : S ++ w.take k ++ [w.getD k 0] = S ++ w.take (k + 1) := by rw [List.append_assoc, ← ah_take_s (by omega)]
              rw [Nat.add_comm 96 (w.getD k 0)]
              refine ah_calli (ah_runV E hP hS (As := [.int (nI (w.getD k 0 + 96))]) (rest := [.int (nI a)]) (b := mo) (m_feeds l A D _ hCk (y := w.getD k 0) hlt0.1 hlt0.2 (by omega)) lk_Mod_81 li_Mod_81 gmo rfl ⟨rfl, rfl, (Nat.le_of_ble_eq_true rfl), (Nat.le_of_ble_eq_true rfl)⟩ rfl hl.1 rfl (Nat.le_of_ble_eq_true rfl) dX7_feedPattern_75 ⟨(Nat.le_of_ble_eq_true rfl), (Nat.le_of_ble_eq_true rfl)⟩) hS (fun r F11 H locs hfd hP hS => ?_)
              obtain ⟨hC3, hfr⟩ := hfd
              rw [hsnoc] at hC3 hfr
              subst hfr
              have he1 : ah_e1 P (S ++ w.take (k + 1)) ≤ 40 := pu_cn_le _ _
              refine ah_iadd hx hb dX7_feedPattern_78 ?_
              refine lv_istore_n (lv' := [(3, .int (nI (a + (ah_e1 P (S ++ w.take (k + 1)))))), (0, .ref mo), (1, .int (nI i)), (4, .int (nI k))]) hx hb dX7_feedPattern_79 rfl hl (by decide) rfl (fun ls hl => ?_)
              refine lv_iinc (v := (nI (k + 1))) (lv' := [(4, .int (nI (k + 1))), (3, .int (nI (a + (ah_e1 P (S ++ w.take (k + 1)))))), (0, .ref mo), (1, .int (nI i))]) hx hb dX7_feedPattern_80 hl (k := 3) rfl (ah_inc _) (by decide) rfl (fun ls hl => ?_)
              refine lv_goto (tgt := 50) hx hb dX7_feedPattern_83 (by decide) ?_
              exact ih _ (k + 1) _ (by omega) (by omega) (by rw [ah_fs, ← ha]) (by rw [← nI_add, ← Int32.add_assoc]; exact hC3) _ _ hP hS ls (lv_sub hl [2, 3, 1, 0] rfl)
        exact L50 (w.length + 1) _ 0 0 (by omega) (Nat.zero_le _) rfl (by rw [List.take_zero, List.append_nil, show td + nI 0 = td from Int32.add_zero td]; exact hC2) _ _ hP hS ls (lv_sub hl [3, 4, 1, 0] rfl)
      · skip
        exact absurd hc40 (by decide)
    · skip
      refine lv_iconst (v := (nI 2)) hx hb dX7_feedPattern_32 (by decide) ?_
      refine lv_goto (tgt := 37) hx hb dX7_feedPattern_33 (by decide) ?_
      refine ah_calli (ah_runV E hP hS (As := [.int (nI 2)]) (rest := []) (b := mo) (m_holds l A D _ hmo hdA htA hlA heA hnlA hneA hsA hL (k := 2) (by omega)) lk_Mod_46 li_Mod_46 hmo rfl ⟨rfl, rfl, (Nat.le_of_ble_eq_true rfl), (Nat.le_of_ble_eq_true rfl)⟩ rfl hl.1 rfl (Nat.le_of_ble_eq_true rfl) dX7_feedPattern_37 ⟨(Nat.le_of_ble_eq_true rfl), (Nat.le_of_ble_eq_true rfl)⟩) hS (fun r F12 H locs hho37 hP hS => ?_)
      obtain ⟨eho37, hro⟩ := hho37
      have hG13 : F12 dA = some (ah_ai D 8 df) := by rw [eho37]; exact ah_keep hmo hdA rfl
      have hG14 : F12 tA = some (ah_az D 40 tf) := by rw [eho37]; exact ah_keep hmo htA rfl
      have hG15 : F12 lA = some (ah_ai D 40 lf) := by rw [eho37]; exact ah_keep hmo hlA rfl
      have hG16 : F12 eA = some (ah_ai D 320 ef) := by rw [eho37]; exact ah_keep hmo heA rfl
      have hG17 : F12 nlA = some (ah_ai D 40 nlf) := by rw [eho37]; exact ah_keep hmo hnlA rfl
      have hG18 : F12 neA = some (ah_ai D 320 nef) := by rw [eho37]; exact ah_keep hmo hneA rfl
      have hG19 : F12 sA = some (ah_ai D 200 sf) := by rw [eho37]; exact ah_keep hmo hsA rfl
      have hG20 : F12 mo = some (.inr (7, [.int (nI 2), .ref dA, .int (nI dr.length), .int (nI n), .ref tA, .ref lA, .ref eA, .ref nlA, .ref neA, .ref sA, .int (nI S.length), .int td, .int ip, .int il])) := by rw [eho37]; exact ah_up_s _ _ _
      subst hro
      refine ah_ifb_ne (tgt := 45) hx hb dX7_feedPattern_40 (by decide) (fun hc40 => ?_) (fun hc40 => ?_)
      · skip
        exact absurd hc40 (by decide)
      · skip
        refine lv_iconst (v := (nI 0)) hx hb dX7_feedPattern_43 (by decide) ?_
        rw [hQ]
        exact ah_iret E hr hP hS (md_An_i (k := 2) (v := 0) (by simp only [sp_feedPattern, hpi, ah_w_s hPi]; rw [if_pos (by omega)]) ⟨dA, tA, lA, eA, nlA, neA, sA, _, _, ln, _, _, _, _, _, _, _, hG20, hG13, hG14, hG15, hG16, hG17, hG18, hG19, hne1, hne2, hne3, hne4, hL⟩ (fun h => absurd h (by decide))) (Nat.le_of_ble_eq_true rfl) (Nat.le_of_ble_eq_true rfl) dX7_feedPattern_44
  · skip
    have hnone := md_none hc8
    refine lv_iconst (v := (nI 1)) hx hb dX7_feedPattern_11 (by decide) ?_
    refine lv_goto (tgt := 37) hx hb dX7_feedPattern_12 (by decide) ?_
    refine ah_calli (ah_runV E hP hS (As := [.int (nI 1)]) (rest := []) (b := mo) (m_holds l A D _ hmo hdA htA hlA heA hnlA hneA hsA hL (k := 1) (by omega)) lk_Mod_46 li_Mod_46 hmo rfl ⟨rfl, rfl, (Nat.le_of_ble_eq_true rfl), (Nat.le_of_ble_eq_true rfl)⟩ rfl hl.1 rfl (Nat.le_of_ble_eq_true rfl) dX7_feedPattern_37 ⟨(Nat.le_of_ble_eq_true rfl), (Nat.le_of_ble_eq_true rfl)⟩) hS (fun r F21 H locs hho37 hP hS => ?_)
    obtain ⟨eho37, hro⟩ := hho37
    have hG22 : F21 dA = some (ah_ai D 8 df) := by rw [eho37]; exact ah_keep hmo hdA rfl
    have hG23 : F21 tA = some (ah_az D 40 tf) := by rw [eho37]; exact ah_keep hmo htA rfl
    have hG24 : F21 lA = some (ah_ai D 40 lf) := by rw [eho37]; exact ah_keep hmo hlA rfl
    have hG25 : F21 eA = some (ah_ai D 320 ef) := by rw [eho37]; exact ah_keep hmo heA rfl
    have hG26 : F21 nlA = some (ah_ai D 40 nlf) := by rw [eho37]; exact ah_keep hmo hnlA rfl
    have hG27 : F21 neA = some (ah_ai D 320 nef) := by rw [eho37]; exact ah_keep hmo hneA rfl
    have hG28 : F21 sA = some (ah_ai D 200 sf) := by rw [eho37]; exact ah_keep hmo hsA rfl
    have hG29 : F21 mo = some (.inr (7, [.int (nI 1), .ref dA, .int (nI dr.length), .int (nI n), .ref tA, .ref lA, .ref eA, .ref nlA, .ref neA, .ref sA, .int (nI S.length), .int td, .int ip, .int il])) := by rw [eho37]; exact ah_up_s _ _ _
    subst hro
    refine ah_ifb_ne (tgt := 45) hx hb dX7_feedPattern_40 (by decide) (fun hc40 => ?_) (fun hc40 => ?_)
    · skip
      exact absurd hc40 (by decide)
    · skip
      refine lv_iconst (v := (nI 0)) hx hb dX7_feedPattern_43 (by decide) ?_
      rw [hQ]
      exact ah_iret E hr hP hS (md_An_i (k := 1) (v := 0) (by simp only [sp_feedPattern, hnone]) ⟨dA, tA, lA, eA, nlA, neA, sA, _, _, ln, _, _, _, _, _, _, _, hG29, hG22, hG23, hG24, hG25, hG26, hG27, hG28, hne1, hne2, hne3, hne4, hL⟩ (fun h => absurd h (by decide))) (Nat.le_of_ble_eq_true rfl) (Nat.le_of_ble_eq_true rfl) dX7_feedPattern_44
