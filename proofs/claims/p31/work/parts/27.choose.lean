theorem ah_pick_n {F : ah_F} {P : ah_Pt} {S : List Nat} {L : ah_Ch} {rf pf : Nat → Option Nat} {lf : Nat → Int32} {x : Int32} (hc : ah_cho rf pf lf L) (h : ah_rows F rf P) (hn : ah_chn P S L) (e : (ah_ixn L.length x).bind pf = none) : ah_ixn L.length x = none := by
  cases hx : ah_ixn L.length x with
  | none => rfl
  | some t =>
    obtain ⟨ht, -⟩ := ah_ixn_s hx
    rw [hx] at e
    have e : pf t = none := e
    obtain ⟨-, -, hj, hp, -⟩ := hn t (L[t]).1 (L[t]).2 (List.getElem?_eq_getElem ht)
    rw [(hc t ht).1] at e
    rw [h.n hj e] at hp
    cases hp
theorem ah_pick_s {F : ah_F} {P : ah_Pt} {S : List Nat} {L : ah_Ch} {rf pf : Nat → Option Nat} {lf : Nat → Int32} {x : Int32} {q : Nat} (hc : ah_cho rf pf lf L) (h : ah_rows F rf P) (hn : ah_chn P S L) (e : (ah_ixn L.length x).bind pf = some q) : ∃ (t j i : Nat) (w r : List Nat) (lw lr : Nat), ah_ixn L.length x = some t ∧ t < L.length ∧ x = nI t ∧ L[t]? = some (j, i) ∧ lf t = nI i ∧ j < 40 ∧ P j = some (w, r) ∧ F q = some (.inr (2, [.int (nI j), .ref lw, .ref lr])) ∧ ah_wd F lw w ∧ ah_wd F lr r ∧ ah_ok w ∧ ah_ok r ∧ w ≠ [] := by
  cases hx : ah_ixn L.length x with
  | none => rw [hx] at e; cases e
  | some t =>
    obtain ⟨ht, hxt⟩ := ah_ixn_s hx
    rw [hx] at e
    have e : pf t = some q := e
    obtain ⟨-, -, hj, hp, -⟩ := hn t (L[t]).1 (L[t]).2 (List.getElem?_eq_getElem ht)
    rw [(hc t ht).1] at e
    obtain ⟨w, r, lw, lr, h3, h4⟩ := h.s hj e
    exact ⟨t, (L[t]).1, (L[t]).2, w, r, lw, lr, rfl, ht, hxt, List.getElem?_eq_getElem ht, (hc t ht).2, hj, h3, h4⟩
set_option maxHeartbeats 4000000 in
set_option maxRecDepth 100000 in
/-- mostApart -/
theorem c_mostApart (l : Launch) (A : Nat → Prop) (D : ah_G) (F : ah_F) {x n : Nat} {P : ah_Pt} {dr S : List Nat} {td : Int32} (hC : ah_C D F x P n dr S td)  : Met l yX6_mostApart (Cond.code yX6_mostApart cX6_mostApart 1 (some .int) :: ah_T) { frames := 5, cells := 0, slots := 0, locals := 120 } (va_Pc [.ref x] (ah_B A D F)) (ah_Qi A D (fun (r : Int32) F1 => nI (ah_chs P S 2).length = r ∧ ah_C D F1 x P n dr S td ∧ ah_out D F F1)) 0 0 A := by
  refine ah_met (own := "Ahoarch") (by decide) rfl (Nat.le_of_ble_eq_true rfl) ?_
  intro p e s m below meth c ls E hr hini hl hP hS Q hQ
  have hx := E.1
  have hb := E.2.1
  have hl : lv_has ls 1 [(0, .ref x)] := hl
  obtain ⟨b, ra, st, la, ch, cp, cl, tx, ta, dw, rf, lf, pf, plf, tf, cc, tc, pr, hxx, hbk, hra, hrows, hst, hla, hstr, hch, hcp, hcl, htx, hta, hdw, hdok, hn40, hPn, hpr, hpr20⟩ := id hC
  obtain ⟨hS1, hS2, hS3⟩ := id hstr
  have hP40 : ∀ i, 40 ≤ i → P i = none := fun i hi => hPn i (by omega)
  refine lv_aload_n hx hb dX6_mostApart_0 rfl (lv_at hl 0 rfl) ?_
  refine gf_Aho_26 E hP hxx rfl dX6_mostApart_1 ?_
  refine lv_iconst (v := (nI 2)) hx hb dX6_mostApart_4 (by decide) ?_
  refine lv_aload_n hx hb dX6_mostApart_5 rfl (lv_at hl 0 rfl) ?_
  refine gf_Aho_10 E hP hxx rfl dX6_mostApart_6 ?_
  refine lv_aload_n hx hb dX6_mostApart_9 rfl (lv_at hl 0 rfl) ?_
  refine gf_Aho_19 E hP hxx rfl dX6_mostApart_10 ?_
  refine ah_callv (ah_runV E hP hS (As := [.int (nI 2), .ref b, .ref st]) (rest := []) (b := ch) (c_Choice_choose l A D _ hch hcp hcl hbk hra hrows hst hla hstr (ru := 2) (by omega)) lk_Aho_177 li_Aho_177 hch rfl ⟨rfl, rfl, (Nat.le_of_ble_eq_true rfl), (Nat.le_of_ble_eq_true rfl)⟩ rfl hl.1 rfl (Nat.le_of_ble_eq_true rfl) dX6_mostApart_13 ⟨(Nat.le_of_ble_eq_true rfl), (Nat.le_of_ble_eq_true rfl)⟩) hS (fun F1 H locs hcz hP hS => ?_)
  obtain ⟨pf2, lf2, hy1, hy2, hy3, hcho, hcl200, hy6⟩ := hcz
  have hG2 : F1 x = some (.inr (6, [.ref b, .ref st, .ref ch, .ref tx, .ref dw, .int td])) := (hy6 x (ah_nin3 (ah_ne hxx hch rfl) (ah_ne hxx hcl rfl) (ah_ne hxx hcp rfl))).trans hxx
  have hG3 : F1 b = some (.inr (0, [.ref ra, .int (nI n), .int (nI pr)])) := (hy6 b (ah_nin3 (ah_ne hbk hch rfl) (ah_ne hbk hcl rfl) (ah_ne hbk hcp rfl))).trans hbk
  have hG4 : F1 ra = some (ah_aq D 40 rf) := (hy6 ra (ah_nin3 (ah_ne hra hch rfl) (ah_ne hra hcl rfl) (ah_ne hra hcp rfl))).trans hra
  have hG5 : F1 st = some (.inr (3, [.ref la, .int (nI S.length)])) := (hy6 st (ah_nin3 (ah_ne hst hch rfl) (ah_ne hst hcl rfl) (ah_ne hst hcp rfl))).trans hst
  have hG6 : F1 la = some (ah_al D 201 lf) := (hy6 la (ah_nin3 (ah_ne hla hch rfl) (ah_ne hla hcl rfl) (ah_ne hla hcp rfl))).trans hla
  have hG7 : F1 tx = some (.inr (4, [.ref ta, .int (nI tc)])) := (hy6 tx (ah_nin3 (ah_ne htx hch rfl) (ah_ne htx hcl rfl) (ah_ne htx hcp rfl))).trans htx
  have hG8 : F1 ta = some (ah_ac D 1600 tf) := (hy6 ta (ah_nin3 (ah_ne hta hch rfl) (ah_ne hta hcl rfl) (ah_ne hta hcp rfl))).trans hta
  have hG9 : F1 dw = some (.inr (5, [.long (lN (ah_enc dr)), .int (nI dr.length)])) := (hy6 dw (ah_nin3 (ah_ne hdw hch rfl) (ah_ne hdw hcl rfl) (ah_ne hdw hcp rfl))).trans hdw
  have hC10 : ah_ch F F1 [ch, cl, cp] := hy6
  have hchn := ah_chs_chn (S := S) (hrows.ok hP40) 2
  have hrows2 : ah_rows F1 rf P := (hrows.fr hC10 (ah_all3 (ah_nr_t hch rfl rfl) (ah_nr_t hcl rfl rfl) (ah_nr_t hcp rfl rfl)))
  refine lv_aload_n hx hb dX6_mostApart_16 rfl (lv_at hl 0 rfl) ?_
  refine gf_Aho_26 E hP hG2 rfl dX6_mostApart_17 ?_
  refine gf_Aho_181 E hP hy1 rfl dX6_mostApart_20 ?_
  rw [hQ]
  exact ah_iret E hr hP hS ⟨rfl, ⟨b, ra, st, la, ch, cp, cl, tx, ta, dw, _, _, _, _, _, _, _, _, hG2, hG3, hG4, (hrows.fr hC10 (ah_all3 (ah_nr_t hch rfl rfl) (ah_nr_t hcl rfl rfl) (ah_nr_t hcp rfl rfl))), hG5, hG6, hstr, hy1, hy2, hy3, hG7, hG8, hG9, hdok, hn40, hPn, hpr, hpr20⟩, (ah_out_c hC10 (ah_all3 (ah_no_t hch rfl) (ah_no_t hcl rfl) (ah_no_t hcp rfl)))⟩ (Nat.le_of_ble_eq_true rfl) (Nat.le_of_ble_eq_true rfl) dX6_mostApart_23

set_option maxHeartbeats 4000000 in
set_option maxRecDepth 100000 in
/-- chosen -/
theorem c_chosen (l : Launch) (hl1 : l.stackTraces = false) (A : Nat → Prop) (D : ah_G) (F : ah_F) {x n : Nat} {P : ah_Pt} {dr S : List Nat} {td : Int32} (hC : ah_C D F x P n dr S td) {v0 : Int32} : vx_Met l yX6_chosen (Cond.code yX6_chosen cX6_chosen 2 (some .int) :: ah_T) { frames := 7, cells := 1, slots := 6, locals := 120 } (va_Pc [.ref x, .int v0] (ah_B A D F)) (ah_Qi A D (fun (r : Int32) F1 => ∃ ru : Nat, ru ≤ 2 ∧ v0 = nI ru ∧ nI (ah_chs P S ru).length = r ∧ ah_C D F1 x P n dr S td ∧ ah_out D F F1)) (ah_X A D (fun E F1 => F = F1 ∧ E = "java/lang/IllegalArgumentException" ∧ ∀ ru : Nat, ru ≤ 2 → v0 ≠ nI ru)) 1 6 A := by
  refine ah_xmet (own := "Ahoarch") (by decide) rfl (Nat.le_of_ble_eq_true rfl) ?_
  intro p e s m below meth c ls E hr htab hl hP hS Q hQ
  have hx := E.1
  have hb := E.2.1
  have hl : lv_has ls 2 [(0, .ref x), (1, .int v0)] := hl
  obtain ⟨b, ra, st, la, ch, cp, cl, tx, ta, dw, rf, lf, pf, plf, tf, cc, tc, pr, hxx, hbk, hra, hrows, hst, hla, hstr, hch, hcp, hcl, htx, hta, hdw, hdok, hn40, hPn, hpr, hpr20⟩ := id hC
  obtain ⟨hS1, hS2, hS3⟩ := id hstr
  have hP40 : ∀ i, 40 ≤ i → P i = none := fun i hi => hPn i (by omega)
  refine lv_iload_n hx hb dX6_chosen_0 rfl (lv_at hl 1 rfl) ?_
  refine ah_xcallv (ah_xrunS E hP hS (As := [.int v0]) (rest := []) (c_needRule l hl1 A D _) lk_Aho_183 li_Aho_183 ⟨rfl, rfl, (Nat.le_of_ble_eq_true rfl), (Nat.le_of_ble_eq_true rfl)⟩ rfl hl.1 rfl (Nat.le_of_ble_eq_true rfl) dX6_chosen_1 ⟨(Nat.le_of_ble_eq_true rfl), (Nat.le_of_ble_eq_true rfl)⟩) hS (fun E0 q9 Fx H locs hT => ?_) (fun F1 H locs hq hP hS => ?_)
  · skip
    rw [hQ]
    exact ah_xout E htab hT (fun h => h) (Nat.le_of_ble_eq_true rfl) (Nat.le_of_ble_eq_true rfl)
  · skip
    obtain ⟨rfl, ru, hru, hrv⟩ := hq
    rw [hrv] at hl
    refine lv_aload_n hx hb dX6_chosen_4 rfl (lv_at hl 0 rfl) ?_
    refine gf_Aho_26 E hP hxx rfl dX6_chosen_5 ?_
    refine lv_iload_n hx hb dX6_chosen_8 rfl (lv_at hl 1 rfl) ?_
    refine lv_aload_n hx hb dX6_chosen_9 rfl (lv_at hl 0 rfl) ?_
    refine gf_Aho_10 E hP hxx rfl dX6_chosen_10 ?_
    refine lv_aload_n hx hb dX6_chosen_13 rfl (lv_at hl 0 rfl) ?_
    refine gf_Aho_19 E hP hxx rfl dX6_chosen_14 ?_
    refine ah_callv (ah_runV E hP hS (As := [.int (nI ru), .ref b, .ref st]) (rest := []) (b := ch) (c_Choice_choose l A D _ hch hcp hcl hbk hra hrows hst hla hstr (ru := ru) (by omega)) lk_Aho_177 li_Aho_177 hch rfl ⟨rfl, rfl, (Nat.le_of_ble_eq_true rfl), (Nat.le_of_ble_eq_true rfl)⟩ rfl hl.1 rfl (Nat.le_of_ble_eq_true rfl) dX6_chosen_17 ⟨(Nat.le_of_ble_eq_true rfl), (Nat.le_of_ble_eq_true rfl)⟩) hS (fun F2 H locs hcz hP hS => ?_)
    obtain ⟨pf2, lf2, hy1, hy2, hy3, hcho, hcl200, hy6⟩ := hcz
    have hG3 : F2 x = some (.inr (6, [.ref b, .ref st, .ref ch, .ref tx, .ref dw, .int td])) := (hy6 x (ah_nin3 (ah_ne hxx hch rfl) (ah_ne hxx hcl rfl) (ah_ne hxx hcp rfl))).trans hxx
    have hG4 : F2 b = some (.inr (0, [.ref ra, .int (nI n), .int (nI pr)])) := (hy6 b (ah_nin3 (ah_ne hbk hch rfl) (ah_ne hbk hcl rfl) (ah_ne hbk hcp rfl))).trans hbk
    have hG5 : F2 ra = some (ah_aq D 40 rf) := (hy6 ra (ah_nin3 (ah_ne hra hch rfl) (ah_ne hra hcl rfl) (ah_ne hra hcp rfl))).trans hra
    have hG6 : F2 st = some (.inr (3, [.ref la, .int (nI S.length)])) := (hy6 st (ah_nin3 (ah_ne hst hch rfl) (ah_ne hst hcl rfl) (ah_ne hst hcp rfl))).trans hst
    have hG7 : F2 la = some (ah_al D 201 lf) := (hy6 la (ah_nin3 (ah_ne hla hch rfl) (ah_ne hla hcl rfl) (ah_ne hla hcp rfl))).trans hla
    have hG8 : F2 tx = some (.inr (4, [.ref ta, .int (nI tc)])) := (hy6 tx (ah_nin3 (ah_ne htx hch rfl) (ah_ne htx hcl rfl) (ah_ne htx hcp rfl))).trans htx
    have hG9 : F2 ta = some (ah_ac D 1600 tf) := (hy6 ta (ah_nin3 (ah_ne hta hch rfl) (ah_ne hta hcl rfl) (ah_ne hta hcp rfl))).trans hta
    have hG10 : F2 dw = some (.inr (5, [.long (lN (ah_enc dr)), .int (nI dr.length)])) := (hy6 dw (ah_nin3 (ah_ne hdw hch rfl) (ah_ne hdw hcl rfl) (ah_ne hdw hcp rfl))).trans hdw
    have hC11 : ah_ch F F2 [ch, cl, cp] := hy6
    have hchn := ah_chs_chn (S := S) (hrows.ok hP40) ru
    have hrows2 : ah_rows F2 rf P := (hrows.fr hC11 (ah_all3 (ah_nr_t hch rfl rfl) (ah_nr_t hcl rfl rfl) (ah_nr_t hcp rfl rfl)))
    refine lv_aload_n hx hb dX6_chosen_20 rfl (lv_at hl 0 rfl) ?_
    refine gf_Aho_26 E hP hG3 rfl dX6_chosen_21 ?_
    refine gf_Aho_181 E hP hy1 rfl dX6_chosen_24 ?_
    rw [hQ]
    exact vx_ret (ah_iret E hr hP hS ⟨ru, hru, hrv, rfl, ⟨b, ra, st, la, ch, cp, cl, tx, ta, dw, _, _, _, _, _, _, _, _, hG3, hG4, hG5, (hrows.fr hC11 (ah_all3 (ah_nr_t hch rfl rfl) (ah_nr_t hcl rfl rfl) (ah_nr_t hcp rfl rfl))), hG6, hG7, hstr, hy1, hy2, hy3, hG8, hG9, hG10, hdok, hn40, hPn, hpr, hpr20⟩, (ah_out_c hC11 (ah_all3 (ah_no_t hch rfl) (ah_no_t hcl rfl) (ah_no_t hcp rfl)))⟩ (Nat.le_of_ble_eq_true rfl) (Nat.le_of_ble_eq_true rfl) dX6_chosen_27)

set_option maxHeartbeats 4000000 in
set_option maxRecDepth 100000 in
/-- chooseOne -/
theorem c_chooseOne (l : Launch) (hl1 : l.stackTraces = false) (A : Nat → Prop) (D : ah_G) (F : ah_F) {x n : Nat} {P : ah_Pt} {dr S : List Nat} {td : Int32} (hC : ah_C D F x P n dr S td) {v0 v1 : Int32} : vx_Met l yX6_chooseOne (Cond.code yX6_chooseOne cX6_chooseOne 4 (some (.object "Ahoarch$Pattern")) :: ah_T) { frames := 7, cells := 2, slots := 12, locals := 120 } (va_Pc [.ref x, .int v0, .int v1] (ah_B A D F)) (ah_Qq A D (fun (r : Option Nat) F1 => ∃ (ru t j i q lw lr ch b st tx dw cp cl : Nat) (pf1 : Nat → Option Nat) (lf1 : Nat → Int32), ru ≤ 2 ∧ v0 = nI ru ∧ t < (ah_chs P S ru).length ∧ (ah_chs P S ru).length ≤ 200 ∧ v1 = nI t ∧ (ah_chs P S ru)[t]? = some (j, i) ∧ r = some q ∧ F1 q = some (.inr (2, [.int (nI j), .ref lw, .ref lr])) ∧ F1 x = some (.inr (6, [.ref b, .ref st, .ref ch, .ref tx, .ref dw, .int td])) ∧ F1 ch = some (.inr (1, [.ref cp, .ref cl, .int (nI (ah_chs P S ru).length)])) ∧ F1 cp = some (ah_aq D 200 pf1) ∧ F1 cl = some (ah_ai D 200 lf1) ∧ lf1 t = nI i ∧ ah_C D F1 x P n dr S td ∧ ah_out D F F1)) (ah_X A D (fun E F1 => (F = F1 ∧ E = "java/lang/IllegalArgumentException" ∧ ∀ ru : Nat, ru ≤ 2 → v0 ≠ nI ru) ∨ (E = "java/lang/IndexOutOfBoundsException" ∧ ah_C D F1 x P n dr S td ∧ ah_out D F F1 ∧ ∃ ru : Nat, ru ≤ 2 ∧ v0 = nI ru ∧ ah_ixn (ah_chs P S ru).length v1 = none))) 2 12 A := by
  refine ah_xmet (own := "Ahoarch") (by decide) rfl (Nat.le_of_ble_eq_true rfl) ?_
  intro p e s m below meth c ls E hr htab hl hP hS Q hQ
  have hx := E.1
  have hb := E.2.1
  have hl : lv_has ls 4 [(0, .ref x), (1, .int v0), (2, .int v1)] := hl
  obtain ⟨b, ra, st, la, ch, cp, cl, tx, ta, dw, rf, lf, pf, plf, tf, cc, tc, pr, hxx, hbk, hra, hrows, hst, hla, hstr, hch, hcp, hcl, htx, hta, hdw, hdok, hn40, hPn, hpr, hpr20⟩ := id hC
  obtain ⟨hS1, hS2, hS3⟩ := id hstr
  have hP40 : ∀ i, 40 ≤ i → P i = none := fun i hi => hPn i (by omega)
  refine lv_iload_n hx hb dX6_chooseOne_0 rfl (lv_at hl 1 rfl) ?_
  refine ah_xcallv (ah_xrunS E hP hS (As := [.int v0]) (rest := []) (c_needRule l hl1 A D _) lk_Aho_183 li_Aho_183 ⟨rfl, rfl, (Nat.le_of_ble_eq_true rfl), (Nat.le_of_ble_eq_true rfl)⟩ rfl hl.1 rfl (Nat.le_of_ble_eq_true rfl) dX6_chooseOne_1 ⟨(Nat.le_of_ble_eq_true rfl), (Nat.le_of_ble_eq_true rfl)⟩) hS (fun E0 q9 Fx H locs hT => ?_) (fun F1 H locs hq hP hS => ?_)
  · skip
    rw [hQ]
    exact ah_xout E htab hT (fun h => Or.inl h) (Nat.le_of_ble_eq_true rfl) (Nat.le_of_ble_eq_true rfl)
  · skip
    obtain ⟨rfl, ru, hru, hrv⟩ := hq
    rw [hrv] at hl
    refine lv_aload_n hx hb dX6_chooseOne_4 rfl (lv_at hl 0 rfl) ?_
    refine gf_Aho_26 E hP hxx rfl dX6_chooseOne_5 ?_
    refine lv_iload_n hx hb dX6_chooseOne_8 rfl (lv_at hl 1 rfl) ?_
    refine lv_aload_n hx hb dX6_chooseOne_9 rfl (lv_at hl 0 rfl) ?_
    refine gf_Aho_10 E hP hxx rfl dX6_chooseOne_10 ?_
    refine lv_aload_n hx hb dX6_chooseOne_13 rfl (lv_at hl 0 rfl) ?_
    refine gf_Aho_19 E hP hxx rfl dX6_chooseOne_14 ?_
    refine ah_callv (ah_runV E hP hS (As := [.int (nI ru), .ref b, .ref st]) (rest := []) (b := ch) (c_Choice_choose l A D _ hch hcp hcl hbk hra hrows hst hla hstr (ru := ru) (by omega)) lk_Aho_177 li_Aho_177 hch rfl ⟨rfl, rfl, (Nat.le_of_ble_eq_true rfl), (Nat.le_of_ble_eq_true rfl)⟩ rfl hl.1 rfl (Nat.le_of_ble_eq_true rfl) dX6_chooseOne_17 ⟨(Nat.le_of_ble_eq_true rfl), (Nat.le_of_ble_eq_true rfl)⟩) hS (fun F2 H locs hcz hP hS => ?_)
    obtain ⟨pf2, lf2, hy1, hy2, hy3, hcho, hcl200, hy6⟩ := hcz
    have hG3 : F2 x = some (.inr (6, [.ref b, .ref st, .ref ch, .ref tx, .ref dw, .int td])) := (hy6 x (ah_nin3 (ah_ne hxx hch rfl) (ah_ne hxx hcl rfl) (ah_ne hxx hcp rfl))).trans hxx
    have hG4 : F2 b = some (.inr (0, [.ref ra, .int (nI n), .int (nI pr)])) := (hy6 b (ah_nin3 (ah_ne hbk hch rfl) (ah_ne hbk hcl rfl) (ah_ne hbk hcp rfl))).trans hbk
    have hG5 : F2 ra = some (ah_aq D 40 rf) := (hy6 ra (ah_nin3 (ah_ne hra hch rfl) (ah_ne hra hcl rfl) (ah_ne hra hcp rfl))).trans hra
    have hG6 : F2 st = some (.inr (3, [.ref la, .int (nI S.length)])) := (hy6 st (ah_nin3 (ah_ne hst hch rfl) (ah_ne hst hcl rfl) (ah_ne hst hcp rfl))).trans hst
    have hG7 : F2 la = some (ah_al D 201 lf) := (hy6 la (ah_nin3 (ah_ne hla hch rfl) (ah_ne hla hcl rfl) (ah_ne hla hcp rfl))).trans hla
    have hG8 : F2 tx = some (.inr (4, [.ref ta, .int (nI tc)])) := (hy6 tx (ah_nin3 (ah_ne htx hch rfl) (ah_ne htx hcl rfl) (ah_ne htx hcp rfl))).trans htx
    have hG9 : F2 ta = some (ah_ac D 1600 tf) := (hy6 ta (ah_nin3 (ah_ne hta hch rfl) (ah_ne hta hcl rfl) (ah_ne hta hcp rfl))).trans hta
    have hG10 : F2 dw = some (.inr (5, [.long (lN (ah_enc dr)), .int (nI dr.length)])) := (hy6 dw (ah_nin3 (ah_ne hdw hch rfl) (ah_ne hdw hcl rfl) (ah_ne hdw hcp rfl))).trans hdw
    have hC11 : ah_ch F F2 [ch, cl, cp] := hy6
    have hchn := ah_chs_chn (S := S) (hrows.ok hP40) ru
    have hrows2 : ah_rows F2 rf P := (hrows.fr hC11 (ah_all3 (ah_nr_t hch rfl rfl) (ah_nr_t hcl rfl rfl) (ah_nr_t hcp rfl rfl)))
    refine lv_aload_n hx hb dX6_chooseOne_20 rfl (lv_at hl 0 rfl) ?_
    refine gf_Aho_26 E hP hG3 rfl dX6_chooseOne_21 ?_
    refine lv_iload_n hx hb dX6_chooseOne_24 rfl (lv_at hl 2 rfl) ?_
    refine ah_callq (ah_runV E hP hS (As := [.int v1]) (rest := []) (b := ch) (c_Choice_patternAt l A D _ hy1 hy2 hy3 (by omega)) lk_Aho_224 li_Aho_224 hy1 rfl ⟨rfl, rfl, (Nat.le_of_ble_eq_true rfl), (Nat.le_of_ble_eq_true rfl)⟩ rfl hl.1 rfl (Nat.le_of_ble_eq_true rfl) dX6_chooseOne_25 ⟨(Nat.le_of_ble_eq_true rfl), (Nat.le_of_ble_eq_true rfl)⟩) hS (fun r F12 H locs hq hP hS => ?_)
    obtain ⟨rfl, rfl⟩ := hq
    cases hq : (ah_ixn (ah_chs P S ru).length v1).bind pf2 with
    | none =>
      refine lv_astore_nN (lv' := [(3, .null), (0, .ref x), (1, .int (nI ru)), (2, .int v1)]) hx hb dX6_chooseOne_28 rfl hl (by decide) rfl (fun ls hl => ?_)
      refine lv_aload_nN hx hb dX6_chooseOne_29 rfl (lv_at hl 0 rfl) ?_
      refine lv_ifnonnullN hx hb dX6_chooseOne_30 ?_
      rw [hQ]
      exact ah_throw (text := "there is no such occurrence") (px := (fun E F1 => (F = F1 ∧ E = "java/lang/IllegalArgumentException" ∧ ∀ ru : Nat, ru ≤ 2 → v0 ≠ nI ru) ∨ (E = "java/lang/IndexOutOfBoundsException" ∧ ah_C D F1 x P n dr S td ∧ ah_out D F F1 ∧ ∃ ru : Nat, ru ≤ 2 ∧ v0 = nI ru ∧ ah_ixn (ah_chs P S ru).length v1 = none))) hl1 E htab hP hS hl.1 tw_iob (by simp [ah_Strs]) dX6_chooseOne_33 dX6_chooseOne_36 dX6_chooseOne_37 dX6_chooseOne_39 dX6_chooseOne_42 (Nat.le_of_ble_eq_true rfl) (Nat.le_of_ble_eq_true rfl) (Nat.le_of_ble_eq_true rfl) (Nat.le_of_ble_eq_true rfl) (Nat.le_of_ble_eq_true rfl) (Nat.le_of_ble_eq_true rfl) (Or.inr ⟨rfl, ⟨b, ra, st, la, ch, cp, cl, tx, ta, dw, _, _, _, _, _, _, _, _, hG3, hG4, hG5, (hrows.fr hC11 (ah_all3 (ah_nr_t hch rfl rfl) (ah_nr_t hcl rfl rfl) (ah_nr_t hcp rfl rfl))), hG6, hG7, hstr, hy1, hy2, hy3, hG8, hG9, hG10, hdok, hn40, hPn, hpr, hpr20⟩, (ah_out_c hC11 (ah_all3 (ah_no_t hch rfl) (ah_no_t hcl rfl) (ah_no_t hcp rfl))), ru, hru, hrv, ah_pick_n hcho hrows2 hchn hq⟩)
    | some q =>
      obtain ⟨t, j, i, w, r0, lw, lr, hix, htl, hvt, hLt, hlf, hj, hPj, hqo, hlw, hlr, hok, hokr, hne⟩ := ah_pick_s hcho hrows2 hchn hq
      refine lv_astore_n (lv' := [(3, .ref q), (0, .ref x), (1, .int (nI ru)), (2, .int v1)]) hx hb dX6_chooseOne_28 rfl hl (by decide) rfl (fun ls hl => ?_)
      refine lv_aload_n hx hb dX6_chooseOne_29 rfl (lv_at hl 0 rfl) ?_
      refine lv_ifnonnull (tgt := 43) hx hb dX6_chooseOne_30 (by decide) ?_
      refine lv_aload_n hx hb dX6_chooseOne_43 rfl (lv_at hl 0 rfl) ?_
      rw [hQ]
      exact vx_ret (ah_qret (v := some q) E hr hP hS ⟨ru, t, j, i, q, lw, lr, ch, b, st, tx, dw, cp, cl, pf2, lf2, hru, hrv, htl, by omega, hvt, hLt, rfl, hqo, hG3, hy1, hy2, hy3, hlf, ⟨b, ra, st, la, ch, cp, cl, tx, ta, dw, _, _, _, _, _, _, _, _, hG3, hG4, hG5, (hrows.fr hC11 (ah_all3 (ah_nr_t hch rfl rfl) (ah_nr_t hcl rfl rfl) (ah_nr_t hcp rfl rfl))), hG6, hG7, hstr, hy1, hy2, hy3, hG8, hG9, hG10, hdok, hn40, hPn, hpr, hpr20⟩, (ah_out_c hC11 (ah_all3 (ah_no_t hch rfl) (ah_no_t hcl rfl) (ah_no_t hcp rfl)))⟩ (Nat.le_of_ble_eq_true rfl) (Nat.le_of_ble_eq_true rfl) dX6_chooseOne_44)

set_option maxHeartbeats 4000000 in
set_option maxRecDepth 100000 in
/-- chosenPattern -/
theorem c_chosenPattern (l : Launch) (hl1 : l.stackTraces = false) (A : Nat → Prop) (D : ah_G) (F : ah_F) {x n : Nat} {P : ah_Pt} {dr S : List Nat} {td : Int32} (hC : ah_C D F x P n dr S td) {v0 v1 : Int32} : vx_Met l yX6_chosenPattern (Cond.code yX6_chosenPattern cX6_chosenPattern 3 (some .int) :: ah_T) { frames := 8, cells := 2, slots := 12, locals := 143 } (va_Pc [.ref x, .int v0, .int v1] (ah_B A D F)) (ah_Qi A D (fun (r : Int32) F1 => ∃ (ru t j i : Nat), ru ≤ 2 ∧ v0 = nI ru ∧ ah_ixn (ah_chs P S ru).length v1 = some t ∧ (ah_chs P S ru)[t]? = some (j, i) ∧ nI j = r ∧ ah_C D F1 x P n dr S td ∧ ah_out D F F1)) (ah_X A D (fun E F1 => (F = F1 ∧ E = "java/lang/IllegalArgumentException" ∧ ∀ ru : Nat, ru ≤ 2 → v0 ≠ nI ru) ∨ (E = "java/lang/IndexOutOfBoundsException" ∧ ah_C D F1 x P n dr S td ∧ ah_out D F F1 ∧ ∃ ru : Nat, ru ≤ 2 ∧ v0 = nI ru ∧ ah_ixn (ah_chs P S ru).length v1 = none))) 2 12 A := by
  refine ah_xmet (own := "Ahoarch") (by decide) rfl (Nat.le_of_ble_eq_true rfl) ?_
  intro p e s m below meth c ls E hr htab hl hP hS Q hQ
  have hx := E.1
  have hb := E.2.1
  have hl : lv_has ls 3 [(0, .ref x), (1, .int v0), (2, .int v1)] := hl
  obtain ⟨b, ra, st, la, ch, cp, cl, tx, ta, dw, rf, lf, pf, plf, tf, cc, tc, pr, hxx, hbk, hra, hrows, hst, hla, hstr, hch, hcp, hcl, htx, hta, hdw, hdok, hn40, hPn, hpr, hpr20⟩ := id hC
  obtain ⟨hS1, hS2, hS3⟩ := id hstr
  have hP40 : ∀ i, 40 ≤ i → P i = none := fun i hi => hPn i (by omega)
  refine lv_aload_n hx hb dX6_chosenPattern_0 rfl (lv_at hl 0 rfl) ?_
  refine lv_iload_n hx hb dX6_chosenPattern_1 rfl (lv_at hl 1 rfl) ?_
  refine lv_iload_n hx hb dX6_chosenPattern_2 rfl (lv_at hl 2 rfl) ?_
  refine ah_xcallq (ah_xrunV E hP hS (As := [.int v0, .int v1]) (rest := []) (b := x) (c_chooseOne l hl1 A D _ hC) lk_Aho_186 li_Aho_186 hxx rfl ⟨rfl, rfl, (Nat.le_of_ble_eq_true rfl), (Nat.le_of_ble_eq_true rfl)⟩ rfl hl.1 rfl (Nat.le_of_ble_eq_true rfl) dX6_chosenPattern_3 ⟨(Nat.le_of_ble_eq_true rfl), (Nat.le_of_ble_eq_true rfl)⟩) hS (fun E0 q9 Fx H locs hT => ?_) (fun r F1 H locs hco hP hS => ?_)
  · skip
    rw [hQ]
    exact ah_xout E htab hT (fun h => h) (Nat.le_of_ble_eq_true rfl) (Nat.le_of_ble_eq_true rfl)
  · skip
    obtain ⟨ru, t, j, i, q, lw, lr, ch, b, st, tx, dw, cp, cl, pf1, lf1, hru, hrv, htl, hl2, hvt, hLt, hrq, hqo, hx1, hch1, hcp1, hcl1, hlf, hC1, ho1⟩ := hco
    subst hrq
    refine gf_Aho_161 E hP hqo rfl dX6_chosenPattern_6 ?_
    rw [hQ]
    exact vx_ret (ah_iret E hr hP hS ⟨ru, t, j, i, hru, hrv, by rw [hvt]; exact ah_ixn_in htl (by omega), hLt, rfl, hC1, ho1⟩ (Nat.le_of_ble_eq_true rfl) (Nat.le_of_ble_eq_true rfl) dX6_chosenPattern_9)

set_option maxHeartbeats 4000000 in
set_option maxRecDepth 100000 in
/-- chosenPlace -/
theorem c_chosenPlace (l : Launch) (hl1 : l.stackTraces = false) (A : Nat → Prop) (D : ah_G) (F : ah_F) {x n : Nat} {P : ah_Pt} {dr S : List Nat} {td : Int32} (hC : ah_C D F x P n dr S td) {v0 v1 : Int32} : vx_Met l yX6_chosenPlace (Cond.code yX6_chosenPlace cX6_chosenPlace 3 (some .int) :: ah_T) { frames := 8, cells := 2, slots := 12, locals := 143 } (va_Pc [.ref x, .int v0, .int v1] (ah_B A D F)) (ah_Qi A D (fun (r : Int32) F1 => ∃ (ru t j i : Nat), ru ≤ 2 ∧ v0 = nI ru ∧ ah_ixn (ah_chs P S ru).length v1 = some t ∧ (ah_chs P S ru)[t]? = some (j, i) ∧ nI i = r ∧ ah_C D F1 x P n dr S td ∧ ah_out D F F1)) (ah_X A D (fun E F1 => (F = F1 ∧ E = "java/lang/IllegalArgumentException" ∧ ∀ ru : Nat, ru ≤ 2 → v0 ≠ nI ru) ∨ (E = "java/lang/IndexOutOfBoundsException" ∧ ah_C D F1 x P n dr S td ∧ ah_out D F F1 ∧ ∃ ru : Nat, ru ≤ 2 ∧ v0 = nI ru ∧ ah_ixn (ah_chs P S ru).length v1 = none))) 2 12 A := by
  refine ah_xmet (own := "Ahoarch") (by decide) rfl (Nat.le_of_ble_eq_true rfl) ?_
  intro p e s m below meth c ls E hr htab hl hP hS Q hQ
  have hx := E.1
  have hb := E.2.1
  have hl : lv_has ls 3 [(0, .ref x), (1, .int v0), (2, .int v1)] := hl
  obtain ⟨b, ra, st, la, ch, cp, cl, tx, ta, dw, rf, lf, pf, plf, tf, cc, tc, pr, hxx, hbk, hra, hrows, hst, hla, hstr, hch, hcp, hcl, htx, hta, hdw, hdok, hn40, hPn, hpr, hpr20⟩ := id hC
  obtain ⟨hS1, hS2, hS3⟩ := id hstr
  have hP40 : ∀ i, 40 ≤ i → P i = none := fun i hi => hPn i (by omega)
  refine lv_aload_n hx hb dX6_chosenPlace_0 rfl (lv_at hl 0 rfl) ?_
  refine lv_iload_n hx hb dX6_chosenPlace_1 rfl (lv_at hl 1 rfl) ?_
  refine lv_iload_n hx hb dX6_chosenPlace_2 rfl (lv_at hl 2 rfl) ?_
  refine ah_xcallq (ah_xrunV E hP hS (As := [.int v0, .int v1]) (rest := []) (b := x) (c_chooseOne l hl1 A D _ hC) lk_Aho_186 li_Aho_186 hxx rfl ⟨rfl, rfl, (Nat.le_of_ble_eq_true rfl), (Nat.le_of_ble_eq_true rfl)⟩ rfl hl.1 rfl (Nat.le_of_ble_eq_true rfl) dX6_chosenPlace_3 ⟨(Nat.le_of_ble_eq_true rfl), (Nat.le_of_ble_eq_true rfl)⟩) hS (fun E0 q9 Fx H locs hT => ?_) (fun r F1 H locs hco hP hS => ?_)
  · skip
    rw [hQ]
    exact ah_xout E htab hT (fun h => h) (Nat.le_of_ble_eq_true rfl) (Nat.le_of_ble_eq_true rfl)
  · skip
    obtain ⟨ru, t, j, i, q, lw, lr, ch, b, st, tx, dw, cp, cl, pf1, lf1, hru, hrv, htl, hl2, hvt, hLt, hrq, hqo, hx1, hch1, hcp1, hcl1, hlf, hC1, ho1⟩ := hco
    subst hrq
    refine lv_pop hx hb dX6_chosenPlace_6 rfl ?_
    rw [hvt] at hl
    refine lv_aload_n hx hb dX6_chosenPlace_7 rfl (lv_at hl 0 rfl) ?_
    refine gf_Aho_26 E hP hx1 rfl dX6_chosenPlace_8 ?_
    refine lv_iload_n hx hb dX6_chosenPlace_11 rfl (lv_at hl 2 rfl) ?_
    refine ah_calli (ah_runV E hP hS (As := [.int (nI t)]) (rest := []) (b := ch) (c_Choice_placeAt l A D _ hch1 hcp1 hcl1 hl2 htl) lk_Aho_190 li_Aho_190 hch1 rfl ⟨rfl, rfl, (Nat.le_of_ble_eq_true rfl), (Nat.le_of_ble_eq_true rfl)⟩ rfl hl.1 rfl (Nat.le_of_ble_eq_true rfl) dX6_chosenPlace_12 ⟨(Nat.le_of_ble_eq_true rfl), (Nat.le_of_ble_eq_true rfl)⟩) hS (fun r F2 H locs hq hP hS => ?_)
    obtain ⟨rfl, hpl⟩ := hq
    rw [hlf] at hpl
    subst hpl
    rw [hQ]
    exact vx_ret (ah_iret E hr hP hS ⟨ru, t, j, i, hru, hrv, by rw [hvt]; exact ah_ixn_in htl (by omega), hLt, rfl, hC1, ho1⟩ (Nat.le_of_ble_eq_true rfl) (Nat.le_of_ble_eq_true rfl) dX6_chosenPlace_15)

set_option maxHeartbeats 4000000 in
set_option maxRecDepth 100000 in
/-- rewrite -/
theorem c_rewrite (l : Launch) (A : Nat → Prop) (D : ah_G) (F : ah_F) {x n : Nat} {P : ah_Pt} {dr S : List Nat} {td : Int32} (hC : ah_C D F x P n dr S td) {ru : Nat} (hru : ru ≤ 2) : Met l yX6_rewrite (Cond.code yX6_rewrite cX6_rewrite 5 none :: ah_T) { frames := 5, cells := 0, slots := 0, locals := 120 } (va_Pc [.ref x, .int (nI ru)] (ah_B A D F)) (ah_Qv A D (fun F1 => ∃ (b st ch tx dw ta : Nat) (tf1 : Nat → Int32), F1 x = some (.inr (6, [.ref b, .ref st, .ref ch, .ref tx, .ref dw, .int td])) ∧ F1 tx = some (.inr (4, [.ref ta, .int (nI (ah_tx P S (ah_chs P S ru)).length)])) ∧ F1 ta = some (ah_ac D 1600 tf1) ∧ ah_txt tf1 (ah_tx P S (ah_chs P S ru)) ∧ ah_C D F1 x P n dr S td ∧ ah_out D F F1)) 0 0 A := by
  refine ah_met (own := "Ahoarch") (by decide) rfl (Nat.le_of_ble_eq_true rfl) ?_
  intro p e s m below meth c ls E hr hini hl hP hS Q hQ
  have hx := E.1
  have hb := E.2.1
  have hl : lv_has ls 5 [(0, .ref x), (1, .int (nI ru))] := hl
  obtain ⟨b, ra, st, la, ch, cp, cl, tx, ta, dw, rf, lf, pf, plf, tf, cc, tc, pr, hxx, hbk, hra, hrows, hst, hla, hstr, hch, hcp, hcl, htx, hta, hdw, hdok, hn40, hPn, hpr, hpr20⟩ := id hC
  obtain ⟨hS1, hS2, hS3⟩ := id hstr
  have hP40 : ∀ i, 40 ≤ i → P i = none := fun i hi => hPn i (by omega)
  have hPok := hrows.ok hP40
  refine lv_aload_n hx hb dX6_rewrite_0 rfl (lv_at hl 0 rfl) ?_
  refine gf_Aho_26 E hP hxx rfl dX6_rewrite_1 ?_
  refine lv_iload_n hx hb dX6_rewrite_4 rfl (lv_at hl 1 rfl) ?_
  refine lv_aload_n hx hb dX6_rewrite_5 rfl (lv_at hl 0 rfl) ?_
  refine gf_Aho_10 E hP hxx rfl dX6_rewrite_6 ?_
  refine lv_aload_n hx hb dX6_rewrite_9 rfl (lv_at hl 0 rfl) ?_
  refine gf_Aho_19 E hP hxx rfl dX6_rewrite_10 ?_
  refine ah_callv (ah_runV E hP hS (As := [.int (nI ru), .ref b, .ref st]) (rest := []) (b := ch) (c_Choice_choose l A D _ hch hcp hcl hbk hra hrows hst hla hstr (ru := ru) (by omega)) lk_Aho_177 li_Aho_177 hch rfl ⟨rfl, rfl, (Nat.le_of_ble_eq_true rfl), (Nat.le_of_ble_eq_true rfl)⟩ rfl hl.1 rfl (Nat.le_of_ble_eq_true rfl) dX6_rewrite_13 ⟨(Nat.le_of_ble_eq_true rfl), (Nat.le_of_ble_eq_true rfl)⟩) hS (fun F1 H locs hcz hP hS => ?_)
  obtain ⟨pf2, lf2, hy1, hy2, hy3, hcho, hcl200, hy6⟩ := hcz
  have hG2 : F1 x = some (.inr (6, [.ref b, .ref st, .ref ch, .ref tx, .ref dw, .int td])) := (hy6 x (ah_nin3 (ah_ne hxx hch rfl) (ah_ne hxx hcl rfl) (ah_ne hxx hcp rfl))).trans hxx
  have hG3 : F1 b = some (.inr (0, [.ref ra, .int (nI n), .int (nI pr)])) := (hy6 b (ah_nin3 (ah_ne hbk hch rfl) (ah_ne hbk hcl rfl) (ah_ne hbk hcp rfl))).trans hbk
  have hG4 : F1 ra = some (ah_aq D 40 rf) := (hy6 ra (ah_nin3 (ah_ne hra hch rfl) (ah_ne hra hcl rfl) (ah_ne hra hcp rfl))).trans hra
  have hG5 : F1 st = some (.inr (3, [.ref la, .int (nI S.length)])) := (hy6 st (ah_nin3 (ah_ne hst hch rfl) (ah_ne hst hcl rfl) (ah_ne hst hcp rfl))).trans hst
  have hG6 : F1 la = some (ah_al D 201 lf) := (hy6 la (ah_nin3 (ah_ne hla hch rfl) (ah_ne hla hcl rfl) (ah_ne hla hcp rfl))).trans hla
  have hG7 : F1 tx = some (.inr (4, [.ref ta, .int (nI tc)])) := (hy6 tx (ah_nin3 (ah_ne htx hch rfl) (ah_ne htx hcl rfl) (ah_ne htx hcp rfl))).trans htx
  have hG8 : F1 ta = some (ah_ac D 1600 tf) := (hy6 ta (ah_nin3 (ah_ne hta hch rfl) (ah_ne hta hcl rfl) (ah_ne hta hcp rfl))).trans hta
  have hG9 : F1 dw = some (.inr (5, [.long (lN (ah_enc dr)), .int (nI dr.length)])) := (hy6 dw (ah_nin3 (ah_ne hdw hch rfl) (ah_ne hdw hcl rfl) (ah_ne hdw hcp rfl))).trans hdw
  have hC10 : ah_ch F F1 [ch, cl, cp] := hy6
  have hchn := ah_chs_chn (S := S) (hrows.ok hP40) ru
  have hrows2 : ah_rows F1 rf P := (hrows.fr hC10 (ah_all3 (ah_nr_t hch rfl rfl) (ah_nr_t hcl rfl rfl) (ah_nr_t hcp rfl rfl)))
  refine lv_aload_n hx hb dX6_rewrite_16 rfl (lv_at hl 0 rfl) ?_
  refine gf_Aho_33 E hP hG2 rfl dX6_rewrite_17 ?_
  refine lv_iconst (v := (nI 0)) hx hb dX6_rewrite_20 (by decide) ?_
  refine pf_Aho_197 E hP hS hG7 (Nat.le_of_ble_eq_true rfl) dX6_rewrite_21 (fun H locs hP hS => ?_)
  obtain ⟨F11, eF11⟩ : ∃ Fz : ah_F, Fz = ah_up F1 tx (.inr (4, [.ref ta, .int (nI 0)])) := ⟨_, rfl⟩
  have hP : ah_K A D F11 H := by rw [eF11]; exact hP
  have hF12 : F11 tx = some (.inr (4, [.ref ta, .int (nI 0)])) := by rw [eF11]; exact ah_up_s _ _ _
  have hF13 : F11 x = some (.inr (6, [.ref b, .ref st, .ref ch, .ref tx, .ref dw, .int td])) := by rw [eF11]; exact ah_keep hG7 hG2 rfl
  have hF14 : F11 b = some (.inr (0, [.ref ra, .int (nI n), .int (nI pr)])) := by rw [eF11]; exact ah_keep hG7 hG3 rfl
  have hF15 : F11 ra = some (ah_aq D 40 rf) := by rw [eF11]; exact ah_keep hG7 hG4 rfl
  have hF16 : F11 st = some (.inr (3, [.ref la, .int (nI S.length)])) := by rw [eF11]; exact ah_keep hG7 hG5 rfl
  have hF17 : F11 la = some (ah_al D 201 lf) := by rw [eF11]; exact ah_keep hG7 hG6 rfl
  have hF18 : F11 ta = some (ah_ac D 1600 tf) := by rw [eF11]; exact ah_keep hG7 hG8 rfl
  have hF19 : F11 dw = some (.inr (5, [.long (lN (ah_enc dr)), .int (nI dr.length)])) := by rw [eF11]; exact ah_keep hG7 hG9 rfl
  have hF20 : F11 ch = some (.inr (1, [.ref cp, .ref cl, .int (nI ((ah_chs P S ru).length))])) := by rw [eF11]; exact ah_keep hG7 hy1 rfl
  have hF21 : F11 cp = some (ah_aq D 200 pf2) := by rw [eF11]; exact ah_keep hG7 hy2 rfl
  have hF22 : F11 cl = some (ah_ai D 200 lf2) := by rw [eF11]; exact ah_keep hG7 hy3 rfl
  have hC23 : ah_ch F F11 [tx, ch, cl, cp] := by rw [eF11]; exact ah_ch_u (ah_ch_w hC10) (by simp)
  refine lv_iconst (v := (nI 0)) hx hb dX6_rewrite_24 (by decide) ?_
  refine lv_istore_n (lv' := [(2, .int (nI 0)), (0, .ref x), (1, .int (nI ru))]) hx hb dX6_rewrite_25 rfl hl (by decide) rfl (fun ls hl => ?_)
  refine lv_iconst (v := (nI 0)) hx hb dX6_rewrite_26 (by decide) ?_
  refine lv_istore_n (lv' := [(3, .int (nI 0)), (2, .int (nI 0)), (0, .ref x), (1, .int (nI ru))]) hx hb dX6_rewrite_27 rfl hl (by decide) rfl (fun ls hl => ?_)
  have L28 : ∀ (fuel : Nat), ∀ (Fv : ah_F) (t pl : Nat) (tf1 : Nat → Int32), (ah_chs P S ru).length - t < fuel → t ≤ (ah_chs P S ru).length → pl = ah_pe P (ah_chs P S ru) t → ah_txt tf1 (ah_tp P S (ah_chs P S ru) t) → ah_ch F Fv [ta, tx, ch, cl, cp] → Fv x = some (.inr (6, [.ref b, .ref st, .ref ch, .ref tx, .ref dw, .int td])) → Fv b = some (.inr (0, [.ref ra, .int (nI n), .int (nI pr)])) → Fv ra = some (ah_aq D 40 rf) → Fv st = some (.inr (3, [.ref la, .int (nI S.length)])) → Fv la = some (ah_al D 201 lf) → Fv ch = some (.inr (1, [.ref cp, .ref cl, .int (nI ((ah_chs P S ru).length))])) → Fv cp = some (ah_aq D 200 pf2) → Fv cl = some (ah_ai D 200 lf2) → Fv tx = some (.inr (4, [.ref ta, .int (nI ((ah_tp P S (ah_chs P S ru) t).length))])) → Fv ta = some (ah_ac D 1600 tf1) → Fv dw = some (.inr (5, [.long (lN (ah_enc dr)), .int (nI dr.length)])) → ∀ (H : Heap) (locs : List Loc), ah_K A D Fv H → va_S A s.heap H locs → ∀ (ls : Array Slot), lv_has ls 5 [(0, .ref x), (2, .int (nI pl)), (3, .int (nI t))] → W p l e { frames := 5, cells := 0, slots := 0, locals := 120 } s m [.ref x, .int (nI ru)].toArray below meth c H locs (0 + 0) (0 + 0) Q (F0 m 28 ls []) := by
    intro fuel
    induction fuel with
    | zero =>
      intro Fv t pl tf1 hm
      exact absurd hm (Nat.not_lt_zero _)
    | succ fuel ih =>
      intro Fv t pl tf1 hm ht hpl0 htt1 hcv hk24 hk25 hk26 hk27 hk28 hk29 hk30 hk31 hk32 hk33 hk34 H locs hP hS ls hl
      have hpe1 := ah_pe_le hchn t ht
      have htl1 := ah_tp_len hPok hchn t ht
      have hrows2 : ah_rows Fv rf P := hrows.fr hcv (ah_all5 (ah_nr_t hta rfl rfl) (ah_nr_t htx rfl rfl) (ah_nr_t hch rfl rfl) (ah_nr_t hcl rfl rfl) (ah_nr_t hcp rfl rfl))
      refine lv_iload_n hx hb dX6_rewrite_28 rfl (lv_at hl 2 rfl) ?_
      refine lv_aload_n hx hb dX6_rewrite_29 rfl (lv_at hl 0 rfl) ?_
      refine gf_Aho_26 E hP hk24 rfl dX6_rewrite_30 ?_
      refine gf_Aho_181 E hP hk29 rfl dX6_rewrite_33 ?_
      refine ah_icmp_ge (tgt := 110) hx hb (by omega) (by omega) dX6_rewrite_36 (by decide) (fun hc36 => ?_) (fun hc36 => ?_)
      · skip
        have hte : t = (ah_chs P S ru).length := by omega
        have hT9 : (ah_tp P S (ah_chs P S ru) t) ++ (S.take S.length).drop pl = (ah_tx P S (ah_chs P S ru)) := by rw [hpl0, hte]; rfl
        refine lv_aload_n hx hb dX6_rewrite_110 rfl (lv_at hl 0 rfl) ?_
        refine gf_Aho_33 E hP hk24 rfl dX6_rewrite_111 ?_
        refine lv_aload_n hx hb dX6_rewrite_114 rfl (lv_at hl 0 rfl) ?_
        refine gf_Aho_19 E hP hk24 rfl dX6_rewrite_115 ?_
        refine lv_iload_n hx hb dX6_rewrite_118 rfl (lv_at hl 1 rfl) ?_
        refine lv_aload_n hx hb dX6_rewrite_119 rfl (lv_at hl 0 rfl) ?_
        refine gf_Aho_19 E hP hk24 rfl dX6_rewrite_120 ?_
        refine gf_Aho_143 E hP hk27 rfl dX6_rewrite_123 ?_
        refine ah_callv (ah_runV E hP hS (As := [.ref st, .int (nI pl), .int (nI S.length)]) (rest := []) (b := tx) (c_Text_addStream l A D _ hk32 hk33 htt1 hk27 hk28 hstr (i0 := pl) (e0 := S.length) (by omega) (by omega) (by omega)) lk_Aho_227 li_Aho_227 hk32 rfl ⟨rfl, rfl, (Nat.le_of_ble_eq_true rfl), (Nat.le_of_ble_eq_true rfl)⟩ rfl hl.1 rfl (Nat.le_of_ble_eq_true rfl) dX6_rewrite_126 ⟨(Nat.le_of_ble_eq_true rfl), (Nat.le_of_ble_eq_true rfl)⟩) hS (fun F35 H locs hta3 hP hS => ?_)
        obtain ⟨tf4, hx1_tf4, hx2_tf4, hx3_tf4, hx4_tf4⟩ := hta3
        rw [hT9] at hx1_tf4 hx3_tf4
        have hG36 : F35 x = some (.inr (6, [.ref b, .ref st, .ref ch, .ref tx, .ref dw, .int td])) := (hx4_tf4 x (ah_nin2 (ah_ne hk24 hk32 rfl) (ah_ne hk24 hk33 rfl))).trans hk24
        have hG37 : F35 b = some (.inr (0, [.ref ra, .int (nI n), .int (nI pr)])) := (hx4_tf4 b (ah_nin2 (ah_ne hk25 hk32 rfl) (ah_ne hk25 hk33 rfl))).trans hk25
        have hG38 : F35 ra = some (ah_aq D 40 rf) := (hx4_tf4 ra (ah_nin2 (ah_ne hk26 hk32 rfl) (ah_ne hk26 hk33 rfl))).trans hk26
        have hG39 : F35 st = some (.inr (3, [.ref la, .int (nI S.length)])) := (hx4_tf4 st (ah_nin2 (ah_ne hk27 hk32 rfl) (ah_ne hk27 hk33 rfl))).trans hk27
        have hG40 : F35 la = some (ah_al D 201 lf) := (hx4_tf4 la (ah_nin2 (ah_ne hk28 hk32 rfl) (ah_ne hk28 hk33 rfl))).trans hk28
        have hG41 : F35 dw = some (.inr (5, [.long (lN (ah_enc dr)), .int (nI dr.length)])) := (hx4_tf4 dw (ah_nin2 (ah_ne hk34 hk32 rfl) (ah_ne hk34 hk33 rfl))).trans hk34
        have hG42 : F35 ch = some (.inr (1, [.ref cp, .ref cl, .int (nI ((ah_chs P S ru).length))])) := (hx4_tf4 ch (ah_nin2 (ah_ne hk29 hk32 rfl) (ah_ne hk29 hk33 rfl))).trans hk29
        have hG43 : F35 cp = some (ah_aq D 200 pf2) := (hx4_tf4 cp (ah_nin2 (ah_ne hk30 hk32 rfl) (ah_ne hk30 hk33 rfl))).trans hk30
        have hG44 : F35 cl = some (ah_ai D 200 lf2) := (hx4_tf4 cl (ah_nin2 (ah_ne hk31 hk32 rfl) (ah_ne hk31 hk33 rfl))).trans hk31
        have hC45 : ah_ch F F35 [ta, tx, ch, cl, cp] := ah_ch_t hcv hx4_tf4 (by intro a ha; simp only [List.mem_cons, List.not_mem_nil, or_false] at ha ⊢; omega)
        rw [hQ]
        exact ah_vret E hr hP hS ⟨b, st, ch, tx, dw, ta, tf4, hG36, hx1_tf4, hx2_tf4, hx3_tf4, ⟨b, ra, st, la, ch, cp, cl, tx, ta, dw, _, _, _, _, _, _, _, _, hG36, hG37, hG38, (hrows.fr hC45 (ah_all5 (ah_nr_t hta rfl rfl) (ah_nr_t htx rfl rfl) (ah_nr_t hch rfl rfl) (ah_nr_t hcl rfl rfl) (ah_nr_t hcp rfl rfl))), hG39, hG40, hstr, hG42, hG43, hG44, hx1_tf4, hx2_tf4, hG41, hdok, hn40, hPn, hpr, hpr20⟩, (ah_out_c hC45 (ah_all5 (ah_no_t hta rfl) (ah_no_t htx rfl) (ah_no_t hch rfl) (ah_no_t hcl rfl) (ah_no_t hcp rfl)))⟩ (Nat.le_of_ble_eq_true rfl) (Nat.le_of_ble_eq_true rfl) dX6_rewrite_129
      · skip
        refine lv_aload_n hx hb dX6_rewrite_39 rfl (lv_at hl 0 rfl) ?_
        refine gf_Aho_26 E hP hk24 rfl dX6_rewrite_40 ?_
        refine lv_iload_n hx hb dX6_rewrite_43 rfl (lv_at hl 2 rfl) ?_
        refine ah_callq (ah_runV E hP hS (As := [.int (nI t)]) (rest := []) (b := ch) (c_Choice_patternAt l A D _ hk29 hk30 hk31 (by omega)) lk_Aho_224 li_Aho_224 hk29 rfl ⟨rfl, rfl, (Nat.le_of_ble_eq_true rfl), (Nat.le_of_ble_eq_true rfl)⟩ rfl hl.1 rfl (Nat.le_of_ble_eq_true rfl) dX6_rewrite_44 ⟨(Nat.le_of_ble_eq_true rfl), (Nat.le_of_ble_eq_true rfl)⟩) hS (fun r F46 H locs hq hP hS => ?_)
        obtain ⟨rfl, rfl⟩ := hq
        cases hq : (ah_ixn (ah_chs P S ru).length (nI t)).bind pf2 with
        | none =>
          exact absurd (ah_pick_n hcho hrows2 hchn hq) (by rw [ah_ixn_in hc36 (by omega)]; exact fun e => by cases e)
        | some q =>
          obtain ⟨t2, j, i, w, r0, lw, lr, hix, htl, hvt, hLt, hlf, hj, hPj, hqo, hlw, hlr, hok, hokr, hne⟩ := ah_pick_s hcho hrows2 hchn hq
          rw [ah_ixn_in hc36 (by omega)] at hix
          cases hix
          have hvt9 := hchn _ _ _ hLt
          rw [ah_w_s hPj, ← hpl0] at hvt9
          have hwl := hok.1
          have hrl := hokr.1
          have hwp := List.length_pos_iff.mpr hne
          have hdl : ((S.take i).drop pl).length = i - pl := by rw [List.length_drop, List.length_take]; omega
          have hT1 : ((ah_tp P S (ah_chs P S ru) t) ++ (S.take i).drop pl).length = (ah_tp P S (ah_chs P S ru) t).length + (i - pl) := by rw [List.length_append, hdl]
          refine lv_astore (lv' := [(4, .ref q), (0, .ref x), (2, .int (nI pl)), (3, .int (nI t))]) hx hb dX6_rewrite_47 hl (by decide) rfl (fun ls hl => ?_)
          refine lv_aload hx hb dX6_rewrite_49 (lv_at hl 0 rfl) ?_
          refine lv_ifnull hx hb dX6_rewrite_51 ?_
          refine lv_aload_n hx hb dX6_rewrite_54 rfl (lv_at hl 1 rfl) ?_
          refine gf_Aho_33 E hP hk24 rfl dX6_rewrite_55 ?_
          refine lv_aload_n hx hb dX6_rewrite_58 rfl (lv_at hl 1 rfl) ?_
          refine gf_Aho_19 E hP hk24 rfl dX6_rewrite_59 ?_
          refine lv_iload_n hx hb dX6_rewrite_62 rfl (lv_at hl 2 rfl) ?_
          refine lv_aload_n hx hb dX6_rewrite_63 rfl (lv_at hl 1 rfl) ?_
          refine gf_Aho_26 E hP hk24 rfl dX6_rewrite_64 ?_
          refine lv_iload_n hx hb dX6_rewrite_67 rfl (lv_at hl 3 rfl) ?_
          refine ah_calli (ah_runV E hP hS (As := [.int (nI t)]) (rest := [.int (nI pl), .ref st, .ref tx]) (b := ch) (c_Choice_placeAt l A D _ hk29 hk30 hk31 (by omega) htl) lk_Aho_190 li_Aho_190 hk29 rfl ⟨rfl, rfl, (Nat.le_of_ble_eq_true rfl), (Nat.le_of_ble_eq_true rfl)⟩ rfl hl.1 rfl (Nat.le_of_ble_eq_true rfl) dX6_rewrite_68 ⟨(Nat.le_of_ble_eq_true rfl), (Nat.le_of_ble_eq_true rfl)⟩) hS (fun r F47 H locs hq hP hS => ?_)
          obtain ⟨rfl, hpl⟩ := hq
          rw [hlf] at hpl
          subst hpl
          refine ah_callv (ah_runV E hP hS (As := [.ref st, .int (nI pl), .int (nI i)]) (rest := []) (b := tx) (c_Text_addStream l A D _ hk32 hk33 htt1 hk27 hk28 hstr (i0 := pl) (e0 := i) (by omega) (by omega) (by omega)) lk_Aho_227 li_Aho_227 hk32 rfl ⟨rfl, rfl, (Nat.le_of_ble_eq_true rfl), (Nat.le_of_ble_eq_true rfl)⟩ rfl hl.1 rfl (Nat.le_of_ble_eq_true rfl) dX6_rewrite_71 ⟨(Nat.le_of_ble_eq_true rfl), (Nat.le_of_ble_eq_true rfl)⟩) hS (fun F48 H locs hta1 hP hS => ?_)
          obtain ⟨tf2, hx1_tf2, hx2_tf2, hx3_tf2, hx4_tf2⟩ := hta1
          have hG49 : F48 x = some (.inr (6, [.ref b, .ref st, .ref ch, .ref tx, .ref dw, .int td])) := (hx4_tf2 x (ah_nin2 (ah_ne hk24 hk32 rfl) (ah_ne hk24 hk33 rfl))).trans hk24
          have hG50 : F48 b = some (.inr (0, [.ref ra, .int (nI n), .int (nI pr)])) := (hx4_tf2 b (ah_nin2 (ah_ne hk25 hk32 rfl) (ah_ne hk25 hk33 rfl))).trans hk25
          have hG51 : F48 ra = some (ah_aq D 40 rf) := (hx4_tf2 ra (ah_nin2 (ah_ne hk26 hk32 rfl) (ah_ne hk26 hk33 rfl))).trans hk26
          have hG52 : F48 st = some (.inr (3, [.ref la, .int (nI S.length)])) := (hx4_tf2 st (ah_nin2 (ah_ne hk27 hk32 rfl) (ah_ne hk27 hk33 rfl))).trans hk27
          have hG53 : F48 la = some (ah_al D 201 lf) := (hx4_tf2 la (ah_nin2 (ah_ne hk28 hk32 rfl) (ah_ne hk28 hk33 rfl))).trans hk28
          have hG54 : F48 dw = some (.inr (5, [.long (lN (ah_enc dr)), .int (nI dr.length)])) := (hx4_tf2 dw (ah_nin2 (ah_ne hk34 hk32 rfl) (ah_ne hk34 hk33 rfl))).trans hk34
          have hG55 : F48 ch = some (.inr (1, [.ref cp, .ref cl, .int (nI ((ah_chs P S ru).length))])) := (hx4_tf2 ch (ah_nin2 (ah_ne hk29 hk32 rfl) (ah_ne hk29 hk33 rfl))).trans hk29
          have hG56 : F48 cp = some (ah_aq D 200 pf2) := (hx4_tf2 cp (ah_nin2 (ah_ne hk30 hk32 rfl) (ah_ne hk30 hk33 rfl))).trans hk30
          have hG57 : F48 cl = some (ah_ai D 200 lf2) := (hx4_tf2 cl (ah_nin2 (ah_ne hk31 hk32 rfl) (ah_ne hk31 hk33 rfl))).trans hk31
          have hG58 : F48 q = some (.inr (2, [.int (nI j), .ref lw, .ref lr])) := (hx4_tf2 q (ah_nin2 (ah_ne hqo hk32 rfl) (ah_ne hqo hk33 rfl))).trans hqo
          have hG59 : F48 lw = some (.inr (5, [.long (lN (ah_enc w)), .int (nI w.length)])) := (hx4_tf2 lw (ah_nin2 (ah_ne hlw hk32 rfl) (ah_ne hlw hk33 rfl))).trans hlw
          have hG60 : F48 lr = some (.inr (5, [.long (lN (ah_enc r0)), .int (nI r0.length)])) := (hx4_tf2 lr (ah_nin2 (ah_ne hlr hk32 rfl) (ah_ne hlr hk33 rfl))).trans hlr
          have hC61 : ah_ch F F48 [ta, tx, ch, cl, cp] := ah_ch_t hcv hx4_tf2 (by intro a ha; simp only [List.mem_cons, List.not_mem_nil, or_false] at ha ⊢; omega)
          refine lv_aload_n hx hb dX6_rewrite_74 rfl (lv_at hl 1 rfl) ?_
          refine gf_Aho_33 E hP hG49 rfl dX6_rewrite_75 ?_
          refine lv_aload hx hb dX6_rewrite_78 (lv_at hl 0 rfl) ?_
          refine gf_Aho_90 E hP hG58 rfl dX6_rewrite_80 ?_
          refine ah_callv (ah_runV E hP hS (As := [.ref lr]) (rest := []) (b := tx) (c_Text_addWord l A D _ hx1_tf2 hx2_tf2 hx3_tf2 hG60 hokr (by omega)) lk_Aho_231 li_Aho_231 hx1_tf2 rfl ⟨rfl, rfl, (Nat.le_of_ble_eq_true rfl), (Nat.le_of_ble_eq_true rfl)⟩ rfl hl.1 rfl (Nat.le_of_ble_eq_true rfl) dX6_rewrite_83 ⟨(Nat.le_of_ble_eq_true rfl), (Nat.le_of_ble_eq_true rfl)⟩) hS (fun F62 H locs hta2 hP hS => ?_)
          obtain ⟨tf3, hx1_tf3, hx2_tf3, hx3_tf3, hx4_tf3⟩ := hta2
          rw [show (((ah_tp P S (ah_chs P S ru) t) ++ (S.take i).drop pl) ++ r0) = (ah_tp P S (ah_chs P S ru) (t + 1)) from by rw [ah_tp_s hLt, ah_r_s hPj, hpl0]] at hx1_tf3 hx3_tf3
          have hG63 : F62 x = some (.inr (6, [.ref b, .ref st, .ref ch, .ref tx, .ref dw, .int td])) := (hx4_tf3 x (ah_nin2 (ah_ne hG49 hx1_tf2 rfl) (ah_ne hG49 hx2_tf2 rfl))).trans hG49
          have hG64 : F62 b = some (.inr (0, [.ref ra, .int (nI n), .int (nI pr)])) := (hx4_tf3 b (ah_nin2 (ah_ne hG50 hx1_tf2 rfl) (ah_ne hG50 hx2_tf2 rfl))).trans hG50
          have hG65 : F62 ra = some (ah_aq D 40 rf) := (hx4_tf3 ra (ah_nin2 (ah_ne hG51 hx1_tf2 rfl) (ah_ne hG51 hx2_tf2 rfl))).trans hG51
          have hG66 : F62 st = some (.inr (3, [.ref la, .int (nI S.length)])) := (hx4_tf3 st (ah_nin2 (ah_ne hG52 hx1_tf2 rfl) (ah_ne hG52 hx2_tf2 rfl))).trans hG52
          have hG67 : F62 la = some (ah_al D 201 lf) := (hx4_tf3 la (ah_nin2 (ah_ne hG53 hx1_tf2 rfl) (ah_ne hG53 hx2_tf2 rfl))).trans hG53
          have hG68 : F62 dw = some (.inr (5, [.long (lN (ah_enc dr)), .int (nI dr.length)])) := (hx4_tf3 dw (ah_nin2 (ah_ne hG54 hx1_tf2 rfl) (ah_ne hG54 hx2_tf2 rfl))).trans hG54
          have hG69 : F62 ch = some (.inr (1, [.ref cp, .ref cl, .int (nI ((ah_chs P S ru).length))])) := (hx4_tf3 ch (ah_nin2 (ah_ne hG55 hx1_tf2 rfl) (ah_ne hG55 hx2_tf2 rfl))).trans hG55
          have hG70 : F62 cp = some (ah_aq D 200 pf2) := (hx4_tf3 cp (ah_nin2 (ah_ne hG56 hx1_tf2 rfl) (ah_ne hG56 hx2_tf2 rfl))).trans hG56
          have hG71 : F62 cl = some (ah_ai D 200 lf2) := (hx4_tf3 cl (ah_nin2 (ah_ne hG57 hx1_tf2 rfl) (ah_ne hG57 hx2_tf2 rfl))).trans hG57
          have hG72 : F62 q = some (.inr (2, [.int (nI j), .ref lw, .ref lr])) := (hx4_tf3 q (ah_nin2 (ah_ne hG58 hx1_tf2 rfl) (ah_ne hG58 hx2_tf2 rfl))).trans hG58
          have hG73 : F62 lw = some (.inr (5, [.long (lN (ah_enc w)), .int (nI w.length)])) := (hx4_tf3 lw (ah_nin2 (ah_ne hG59 hx1_tf2 rfl) (ah_ne hG59 hx2_tf2 rfl))).trans hG59
          have hG74 : F62 lr = some (.inr (5, [.long (lN (ah_enc r0)), .int (nI r0.length)])) := (hx4_tf3 lr (ah_nin2 (ah_ne hG60 hx1_tf2 rfl) (ah_ne hG60 hx2_tf2 rfl))).trans hG60
          have hC75 : ah_ch F F62 [ta, tx, ch, cl, cp] := ah_ch_t hC61 hx4_tf3 (by intro a ha; simp only [List.mem_cons, List.not_mem_nil, or_false] at ha ⊢; omega)
          refine lv_aload_n hx hb dX6_rewrite_86 rfl (lv_at hl 1 rfl) ?_
          refine gf_Aho_26 E hP hG63 rfl dX6_rewrite_87 ?_
          refine lv_iload_n hx hb dX6_rewrite_90 rfl (lv_at hl 3 rfl) ?_
          refine ah_calli (ah_runV E hP hS (As := [.int (nI t)]) (rest := []) (b := ch) (c_Choice_placeAt l A D _ hG69 hG70 hG71 (by omega) htl) lk_Aho_190 li_Aho_190 hG69 rfl ⟨rfl, rfl, (Nat.le_of_ble_eq_true rfl), (Nat.le_of_ble_eq_true rfl)⟩ rfl hl.1 rfl (Nat.le_of_ble_eq_true rfl) dX6_rewrite_91 ⟨(Nat.le_of_ble_eq_true rfl), (Nat.le_of_ble_eq_true rfl)⟩) hS (fun r F76 H locs hq hP hS => ?_)
          obtain ⟨rfl, hpl⟩ := hq
          rw [hlf] at hpl
          subst hpl
          refine lv_aload hx hb dX6_rewrite_94 (lv_at hl 0 rfl) ?_
          refine gf_Aho_102 E hP hG72 rfl dX6_rewrite_96 ?_
          refine gf_Aho_54 E hP hG73 rfl dX6_rewrite_99 ?_
          refine ah_iadd hx hb dX6_rewrite_102 ?_
          refine lv_istore_n (lv' := [(2, .int (nI (i + w.length))), (4, .ref q), (0, .ref x), (3, .int (nI t))]) hx hb dX6_rewrite_103 rfl hl (by decide) rfl (fun ls hl => ?_)
          refine lv_iinc (v := (nI (t + 1))) (lv' := [(3, .int (nI (t + 1))), (2, .int (nI (i + w.length))), (4, .ref q), (0, .ref x)]) hx hb dX6_rewrite_104 hl (k := 3) rfl (ah_inc _) (by decide) rfl (fun ls hl => ?_)
          refine lv_goto (tgt := 28) hx hb dX6_rewrite_107 (by decide) ?_
          exact ih _ (t + 1) _ _ (by omega) (by omega) (by rw [ah_pe_s hLt, ah_w_s hPj]) hx3_tf3 hC75 hG63 hG64 hG65 hG66 hG67 hG69 hG70 hG71 hx1_tf3 hx2_tf3 hG68 _ _ hP hS ls (lv_sub hl [3, 1, 0] rfl)
  exact L28 ((ah_chs P S ru).length + 1) _ 0 0 _ (by omega) (Nat.zero_le _) rfl ⟨Nat.zero_le _, fun i hi => absurd hi (Nat.not_lt_zero _)⟩ (ah_ch_w hC23) hF13 hF14 hF15 hF16 hF17 hF20 hF21 hF22 hF12 hF18 hF19 _ _ hP hS ls (lv_sub hl [2, 1, 0] rfl)

set_option maxHeartbeats 4000000 in
set_option maxRecDepth 100000 in
/-- replacedLength -/
theorem c_replacedLength (l : Launch) (hl1 : l.stackTraces = false) (A : Nat → Prop) (D : ah_G) (F : ah_F) {x n : Nat} {P : ah_Pt} {dr S : List Nat} {td : Int32} (hC : ah_C D F x P n dr S td) {v0 : Int32} : vx_Met l yX6_replacedLength (Cond.code yX6_replacedLength cX6_replacedLength 2 (some .int) :: ah_T) { frames := 7, cells := 1, slots := 6, locals := 144 } (va_Pc [.ref x, .int v0] (ah_B A D F)) (ah_Qi A D (fun (r : Int32) F1 => ∃ ru : Nat, ru ≤ 2 ∧ v0 = nI ru ∧ nI (ah_tx P S (ah_chs P S ru)).length = r ∧ ah_C D F1 x P n dr S td ∧ ah_out D F F1)) (ah_X A D (fun E F1 => F = F1 ∧ E = "java/lang/IllegalArgumentException" ∧ ∀ ru : Nat, ru ≤ 2 → v0 ≠ nI ru)) 1 6 A := by
  refine ah_xmet (own := "Ahoarch") (by decide) rfl (Nat.le_of_ble_eq_true rfl) ?_
  intro p e s m below meth c ls E hr htab hl hP hS Q hQ
  have hx := E.1
  have hb := E.2.1
  have hl : lv_has ls 2 [(0, .ref x), (1, .int v0)] := hl
  obtain ⟨b, ra, st, la, ch, cp, cl, tx, ta, dw, rf, lf, pf, plf, tf, cc, tc, pr, hxx, hbk, hra, hrows, hst, hla, hstr, hch, hcp, hcl, htx, hta, hdw, hdok, hn40, hPn, hpr, hpr20⟩ := id hC
  obtain ⟨hS1, hS2, hS3⟩ := id hstr
  have hP40 : ∀ i, 40 ≤ i → P i = none := fun i hi => hPn i (by omega)
  refine lv_iload_n hx hb dX6_replacedLength_0 rfl (lv_at hl 1 rfl) ?_
  refine ah_xcallv (ah_xrunS E hP hS (As := [.int v0]) (rest := []) (c_needRule l hl1 A D _) lk_Aho_183 li_Aho_183 ⟨rfl, rfl, (Nat.le_of_ble_eq_true rfl), (Nat.le_of_ble_eq_true rfl)⟩ rfl hl.1 rfl (Nat.le_of_ble_eq_true rfl) dX6_replacedLength_1 ⟨(Nat.le_of_ble_eq_true rfl), (Nat.le_of_ble_eq_true rfl)⟩) hS (fun E0 q9 Fx H locs hT => ?_) (fun F1 H locs hq hP hS => ?_)
  · skip
    rw [hQ]
    exact ah_xout E htab hT (fun h => h) (Nat.le_of_ble_eq_true rfl) (Nat.le_of_ble_eq_true rfl)
  · skip
    obtain ⟨rfl, ru, hru, hrv⟩ := hq
    rw [hrv] at hl
    refine lv_aload_n hx hb dX6_replacedLength_4 rfl (lv_at hl 0 rfl) ?_
    refine lv_iload_n hx hb dX6_replacedLength_5 rfl (lv_at hl 1 rfl) ?_
    refine ah_callv (ah_runV E hP hS (As := [.int (nI ru)]) (rest := []) (b := x) (c_rewrite l A D _ hC hru) lk_Aho_194 li_Aho_194 hxx rfl ⟨rfl, rfl, (Nat.le_of_ble_eq_true rfl), (Nat.le_of_ble_eq_true rfl)⟩ rfl hl.1 rfl (Nat.le_of_ble_eq_true rfl) dX6_replacedLength_6 ⟨(Nat.le_of_ble_eq_true rfl), (Nat.le_of_ble_eq_true rfl)⟩) hS (fun F2 H locs hrw hP hS => ?_)
    obtain ⟨b9, st9, ch9, tx9, dw9, ta9, tf9, hx9, htx9, hta9, htt9, hC9, ho9⟩ := hrw
    have htl9 := htt9.1
    refine lv_aload_n hx hb dX6_replacedLength_9 rfl (lv_at hl 0 rfl) ?_
    refine gf_Aho_33 E hP hx9 rfl dX6_replacedLength_10 ?_
    refine gf_Aho_197 E hP htx9 rfl dX6_replacedLength_13 ?_
    rw [hQ]
    exact vx_ret (ah_iret E hr hP hS ⟨ru, hru, hrv, rfl, hC9, ho9⟩ (Nat.le_of_ble_eq_true rfl) (Nat.le_of_ble_eq_true rfl) dX6_replacedLength_16)

set_option maxHeartbeats 4000000 in
set_option maxRecDepth 100000 in
/-- replaced -/
theorem c_replaced (l : Launch) (hl1 : l.stackTraces = false) (A : Nat → Prop) (D : ah_G) (F : ah_F) {x n : Nat} {P : ah_Pt} {dr S : List Nat} {td : Int32} (hC : ah_C D F x P n dr S td) {v0 v1 : Int32} : vx_Met l yX6_replaced (Cond.code yX6_replaced cX6_replaced 3 (some .char) :: ah_T) { frames := 7, cells := 2, slots := 12, locals := 144 } (va_Pc [.ref x, .int v0, .int v1] (ah_B A D F)) (ah_Qi A D (fun (r : Int32) F1 => ∃ ru k : Nat, ru ≤ 2 ∧ v0 = nI ru ∧ ah_ixn (ah_tx P S (ah_chs P S ru)).length v1 = some k ∧ nI (96 + (ah_tx P S (ah_chs P S ru)).getD k 0) = r ∧ ah_C D F1 x P n dr S td ∧ ah_out D F F1)) (ah_X A D (fun E F1 => (F = F1 ∧ E = "java/lang/IllegalArgumentException" ∧ ∀ ru : Nat, ru ≤ 2 → v0 ≠ nI ru) ∨ (E = "java/lang/IndexOutOfBoundsException" ∧ ah_C D F1 x P n dr S td ∧ ah_out D F F1 ∧ ∃ ru : Nat, ru ≤ 2 ∧ v0 = nI ru ∧ ah_ixn (ah_tx P S (ah_chs P S ru)).length v1 = none))) 2 12 A := by
  refine ah_xmet (own := "Ahoarch") (by decide) rfl (Nat.le_of_ble_eq_true rfl) ?_
  intro p e s m below meth c ls E hr htab hl hP hS Q hQ
  have hx := E.1
  have hb := E.2.1
  have hl : lv_has ls 3 [(0, .ref x), (1, .int v0), (2, .int v1)] := hl
  obtain ⟨b, ra, st, la, ch, cp, cl, tx, ta, dw, rf, lf, pf, plf, tf, cc, tc, pr, hxx, hbk, hra, hrows, hst, hla, hstr, hch, hcp, hcl, htx, hta, hdw, hdok, hn40, hPn, hpr, hpr20⟩ := id hC
  obtain ⟨hS1, hS2, hS3⟩ := id hstr
  have hP40 : ∀ i, 40 ≤ i → P i = none := fun i hi => hPn i (by omega)
  refine lv_iload_n hx hb dX6_replaced_0 rfl (lv_at hl 1 rfl) ?_
  refine ah_xcallv (ah_xrunS E hP hS (As := [.int v0]) (rest := []) (c_needRule l hl1 A D _) lk_Aho_183 li_Aho_183 ⟨rfl, rfl, (Nat.le_of_ble_eq_true rfl), (Nat.le_of_ble_eq_true rfl)⟩ rfl hl.1 rfl (Nat.le_of_ble_eq_true rfl) dX6_replaced_1 ⟨(Nat.le_of_ble_eq_true rfl), (Nat.le_of_ble_eq_true rfl)⟩) hS (fun E0 q9 Fx H locs hT => ?_) (fun F1 H locs hq hP hS => ?_)
  · skip
    rw [hQ]
    exact ah_xout E htab hT (fun h => Or.inl h) (Nat.le_of_ble_eq_true rfl) (Nat.le_of_ble_eq_true rfl)
  · skip
    obtain ⟨rfl, ru, hru, hrv⟩ := hq
    rw [hrv] at hl
    refine lv_aload_n hx hb dX6_replaced_4 rfl (lv_at hl 0 rfl) ?_
    refine lv_iload_n hx hb dX6_replaced_5 rfl (lv_at hl 1 rfl) ?_
    refine ah_callv (ah_runV E hP hS (As := [.int (nI ru)]) (rest := []) (b := x) (c_rewrite l A D _ hC hru) lk_Aho_194 li_Aho_194 hxx rfl ⟨rfl, rfl, (Nat.le_of_ble_eq_true rfl), (Nat.le_of_ble_eq_true rfl)⟩ rfl hl.1 rfl (Nat.le_of_ble_eq_true rfl) dX6_replaced_6 ⟨(Nat.le_of_ble_eq_true rfl), (Nat.le_of_ble_eq_true rfl)⟩) hS (fun F2 H locs hrw hP hS => ?_)
    obtain ⟨b9, st9, ch9, tx9, dw9, ta9, tf9, hx9, htx9, hta9, htt9, hC9, ho9⟩ := hrw
    have htl9 := htt9.1
    refine lv_iload_n hx hb dX6_replaced_9 rfl (lv_at hl 2 rfl) ?_
    refine lv_if_lt (tgt := 24) hx hb dX6_replaced_10 (by decide) (fun hc10 => ?_) (fun hc10 => ?_)
    · skip
      rw [hQ]
      exact ah_throw (text := "there is no such letter") (px := (fun E F1 => (F = F1 ∧ E = "java/lang/IllegalArgumentException" ∧ ∀ ru : Nat, ru ≤ 2 → v0 ≠ nI ru) ∨ (E = "java/lang/IndexOutOfBoundsException" ∧ ah_C D F1 x P n dr S td ∧ ah_out D F F1 ∧ ∃ ru : Nat, ru ≤ 2 ∧ v0 = nI ru ∧ ah_ixn (ah_tx P S (ah_chs P S ru)).length v1 = none))) hl1 E htab hP hS hl.1 tw_iob (by simp [ah_Strs]) dX6_replaced_24 dX6_replaced_27 dX6_replaced_28 dX6_replaced_30 dX6_replaced_33 (Nat.le_of_ble_eq_true rfl) (Nat.le_of_ble_eq_true rfl) (Nat.le_of_ble_eq_true rfl) (Nat.le_of_ble_eq_true rfl) (Nat.le_of_ble_eq_true rfl) (Nat.le_of_ble_eq_true rfl) (Or.inr ⟨rfl, hC9, ho9, ru, hru, hrv, ah_ixn_neg hc10⟩)
    · skip
      refine lv_iload_n hx hb dX6_replaced_13 rfl (lv_at hl 2 rfl) ?_
      refine lv_aload_n hx hb dX6_replaced_14 rfl (lv_at hl 0 rfl) ?_
      refine gf_Aho_33 E hP hx9 rfl dX6_replaced_15 ?_
      refine gf_Aho_197 E hP htx9 rfl dX6_replaced_18 ?_
      refine lv_icmp_lt (tgt := 34) hx hb dX6_replaced_21 (by decide) (fun hc21 => ?_) (fun hc21 => ?_)
      · skip
        obtain ⟨k, hk, hvk⟩ : ∃ i : Nat, i < (ah_tx P S (ah_chs P S ru)).length ∧ v1 = nI i := by
          rcases pk_ix v1 (n := (ah_tx P S (ah_chs P S ru)).length) (by omega) with h | h | h
          · exact absurd h hc10
          · exact absurd h (Int32.not_le.mpr hc21)
          · exact h
        rw [hvk] at hl
        have hlet : ∀ i, i < (ah_tx P S (ah_chs P S ru)).length → (ah_tx P S (ah_chs P S ru)).getD i 0 ≤ 31 := fun i hi => by rw [List.getD_eq_getElem?_getD, List.getElem?_eq_getElem hi]; have := ah_tx_lt (hrows.ok hP40) hS2 (ah_chs_chn (S := S) (hrows.ok hP40) ru) _ (List.getElem_mem hi); show (ah_tx P S (ah_chs P S ru))[i] ≤ 31; omega
        refine lv_aload_n hx hb dX6_replaced_34 rfl (lv_at hl 0 rfl) ?_
        refine gf_Aho_33 E hP hx9 rfl dX6_replaced_35 ?_
        refine lv_iload_n hx hb dX6_replaced_38 rfl (lv_at hl 2 rfl) ?_
        refine ah_calli (ah_runV E hP hS (As := [.int (nI k)]) (rest := []) (b := tx9) (c_Text_letterAt l A D _ htx9 hta9 htt9 hk hlet) lk_Aho_200 li_Aho_200 htx9 rfl ⟨rfl, rfl, (Nat.le_of_ble_eq_true rfl), (Nat.le_of_ble_eq_true rfl)⟩ rfl hl.1 rfl (Nat.le_of_ble_eq_true rfl) dX6_replaced_39 ⟨(Nat.le_of_ble_eq_true rfl), (Nat.le_of_ble_eq_true rfl)⟩) hS (fun r F3 H locs hq hP hS => ?_)
        obtain ⟨rfl, rfl⟩ := hq
        rw [hQ]
        exact vx_ret (ah_zret E hr (pk_charN (by have := hlet k hk; omega)).1 hP hS ⟨ru, k, hru, hrv, by rw [hvk]; exact ah_ixn_in hk (by omega), rfl, hC9, ho9⟩ (Nat.le_of_ble_eq_true rfl) (Nat.le_of_ble_eq_true rfl) dX6_replaced_42)
      · skip
        rw [hQ]
        exact ah_throw (text := "there is no such letter") (px := (fun E F1 => (F = F1 ∧ E = "java/lang/IllegalArgumentException" ∧ ∀ ru : Nat, ru ≤ 2 → v0 ≠ nI ru) ∨ (E = "java/lang/IndexOutOfBoundsException" ∧ ah_C D F1 x P n dr S td ∧ ah_out D F F1 ∧ ∃ ru : Nat, ru ≤ 2 ∧ v0 = nI ru ∧ ah_ixn (ah_tx P S (ah_chs P S ru)).length v1 = none))) hl1 E htab hP hS hl.1 tw_iob (by simp [ah_Strs]) dX6_replaced_24 dX6_replaced_27 dX6_replaced_28 dX6_replaced_30 dX6_replaced_33 (Nat.le_of_ble_eq_true rfl) (Nat.le_of_ble_eq_true rfl) (Nat.le_of_ble_eq_true rfl) (Nat.le_of_ble_eq_true rfl) (Nat.le_of_ble_eq_true rfl) (Nat.le_of_ble_eq_true rfl) (Or.inr ⟨rfl, hC9, ho9, ru, hru, hrv, ah_ixn_ge (by omega) (Int32.not_lt.mp hc21)⟩)
