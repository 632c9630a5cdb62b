set_option maxHeartbeats 4000000 in
set_option maxRecDepth 100000 in
/-- clear -/
theorem c_clear (l : Launch) (A : Nat → Prop) (D : ah_G) (F : ah_F) {x n : Nat} {P : ah_Pt} {dr S : List Nat} {td : Int32} (hC : ah_C D F x P n dr S td)  : Met l yX6_clear (Cond.code yX6_clear cX6_clear 2 (some .int) :: ah_T) { frames := 0, cells := 0, slots := 0, locals := 0 } (va_Pc [.ref x] (ah_B A D F)) (ah_Qi A D (fun (r : Int32) F1 => nI S.length = r ∧ ah_C D F1 x P n dr [] (nI 0) ∧ ah_out D F F1)) 0 0 A := by
  refine ah_met (own := "Ahoarch") (by decide) rfl (Nat.le_of_ble_eq_true rfl) ?_
  intro p e s m below meth c ls E hr hini hl hP hS Q hQ
  have hx := E.1
  have hb := E.2.1
  have hl : lv_has ls 2 [(0, .ref x)] := hl
  obtain ⟨b, ra, st, la, ch, cp, cl, tx, ta, dw, rf, lf, pf, plf, tf, cc, tc, pr, hxx, hbk, hra, hrows, hst, hla, hstr, hch, hcp, hcl, htx, hta, hdw, hdok, hn40, hPn, hpr, hpr20⟩ := id hC
  obtain ⟨hS1, hS2, hS3⟩ := id hstr
  refine lv_aload_n hx hb dX6_clear_0 rfl (lv_at hl 0 rfl) ?_
  refine gf_Aho_19 E hP hxx rfl dX6_clear_1 ?_
  refine gf_Aho_143 E hP hst rfl dX6_clear_4 ?_
  refine lv_istore_n (lv' := [(1, .int (nI S.length)), (0, .ref x)]) hx hb dX6_clear_7 rfl hl (by decide) rfl (fun ls hl => ?_)
  refine lv_aload_n hx hb dX6_clear_8 rfl (lv_at hl 1 rfl) ?_
  refine gf_Aho_19 E hP hxx rfl dX6_clear_9 ?_
  refine lv_iconst (v := (nI 0)) hx hb dX6_clear_12 (by decide) ?_
  refine pf_Aho_143 E hP hS hst (Nat.le_of_ble_eq_true rfl) dX6_clear_13 (fun H locs hP hS => ?_)
  obtain ⟨F1, eF1⟩ : ∃ Fz : ah_F, Fz = ah_up F st (.inr (3, [.ref la, .int (nI 0)])) := ⟨_, rfl⟩
  have hP : ah_K A D F1 H := by rw [eF1]; exact hP
  have hF2 : F1 st = some (.inr (3, [.ref la, .int (nI 0)])) := by rw [eF1]; exact ah_up_s _ _ _
  have hF3 : F1 x = some (.inr (6, [.ref b, .ref st, .ref ch, .ref tx, .ref dw, .int td])) := by rw [eF1]; exact ah_keep hst hxx rfl
  have hF4 : F1 b = some (.inr (0, [.ref ra, .int (nI n), .int (nI pr)])) := by rw [eF1]; exact ah_keep hst hbk rfl
  have hF5 : F1 ra = some (ah_aq D 40 rf) := by rw [eF1]; exact ah_keep hst hra rfl
  have hF6 : F1 la = some (ah_al D 201 lf) := by rw [eF1]; exact ah_keep hst hla rfl
  have hF7 : F1 ch = some (.inr (1, [.ref cp, .ref cl, .int (nI cc)])) := by rw [eF1]; exact ah_keep hst hch rfl
  have hF8 : F1 cp = some (ah_aq D 200 pf) := by rw [eF1]; exact ah_keep hst hcp rfl
  have hF9 : F1 cl = some (ah_ai D 200 plf) := by rw [eF1]; exact ah_keep hst hcl rfl
  have hF10 : F1 tx = some (.inr (4, [.ref ta, .int (nI tc)])) := by rw [eF1]; exact ah_keep hst htx rfl
  have hF11 : F1 ta = some (ah_ac D 1600 tf) := by rw [eF1]; exact ah_keep hst hta rfl
  have hF12 : F1 dw = some (.inr (5, [.long (lN (ah_enc dr)), .int (nI dr.length)])) := by rw [eF1]; exact ah_keep hst hdw rfl
  have hC13 : ah_ch F F1 [st] := by rw [eF1]; exact ah_ch_u (ah_ch_r _ _) (by simp)
  refine lv_aload_n hx hb dX6_clear_16 rfl (lv_at hl 1 rfl) ?_
  refine lv_iconst (v := (nI 0)) hx hb dX6_clear_17 (by decide) ?_
  refine pf_Aho_46 E hP hS hF3 (Nat.le_of_ble_eq_true rfl) dX6_clear_18 (fun H locs hP hS => ?_)
  obtain ⟨F14, eF14⟩ : ∃ Fz : ah_F, Fz = ah_up F1 x (.inr (6, [.ref b, .ref st, .ref ch, .ref tx, .ref dw, .int (nI 0)])) := ⟨_, rfl⟩
  have hP : ah_K A D F14 H := by rw [eF14]; exact hP
  have hF15 : F14 x = some (.inr (6, [.ref b, .ref st, .ref ch, .ref tx, .ref dw, .int (nI 0)])) := by rw [eF14]; exact ah_up_s _ _ _
  have hF16 : F14 b = some (.inr (0, [.ref ra, .int (nI n), .int (nI pr)])) := by rw [eF14]; exact ah_keep hF3 hF4 rfl
  have hF17 : F14 ra = some (ah_aq D 40 rf) := by rw [eF14]; exact ah_keep hF3 hF5 rfl
  have hF18 : F14 la = some (ah_al D 201 lf) := by rw [eF14]; exact ah_keep hF3 hF6 rfl
  have hF19 : F14 ch = some (.inr (1, [.ref cp, .ref cl, .int (nI cc)])) := by rw [eF14]; exact ah_keep hF3 hF7 rfl
  have hF20 : F14 cp = some (ah_aq D 200 pf) := by rw [eF14]; exact ah_keep hF3 hF8 rfl
  have hF21 : F14 cl = some (ah_ai D 200 plf) := by rw [eF14]; exact ah_keep hF3 hF9 rfl
  have hF22 : F14 tx = some (.inr (4, [.ref ta, .int (nI tc)])) := by rw [eF14]; exact ah_keep hF3 hF10 rfl
  have hF23 : F14 ta = some (ah_ac D 1600 tf) := by rw [eF14]; exact ah_keep hF3 hF11 rfl
  have hF24 : F14 dw = some (.inr (5, [.long (lN (ah_enc dr)), .int (nI dr.length)])) := by rw [eF14]; exact ah_keep hF3 hF12 rfl
  have hF25 : F14 st = some (.inr (3, [.ref la, .int (nI 0)])) := by rw [eF14]; exact ah_keep hF3 hF2 rfl
  have hC26 : ah_ch F F14 [x, st] := by rw [eF14]; exact ah_ch_u (ah_ch_w hC13) (by simp)
  refine lv_iload_n hx hb dX6_clear_21 rfl (lv_at hl 0 rfl) ?_
  rw [hQ]
  exact ah_iret E hr hP hS ⟨rfl, ⟨b, ra, st, la, ch, cp, cl, tx, ta, dw, _, _, _, _, _, _, _, _, hF15, hF16, hF17, (hrows.fr hC26 (ah_all2 (ah_nr_t hxx rfl rfl) (ah_nr_t hst rfl rfl))), hF25, hF18, (ah_str_nil hstr), hF19, hF20, hF21, hF22, hF23, hF24, hdok, hn40, hPn, hpr, hpr20⟩, (ah_out_c hC26 (ah_all2 (ah_no_t hxx rfl) (ah_no_t hst rfl)))⟩ (Nat.le_of_ble_eq_true rfl) (Nat.le_of_ble_eq_true rfl) dX6_clear_22

set_option maxHeartbeats 4000000 in
set_option maxRecDepth 100000 in
/-- take -/
theorem c_take (l : Launch) (A : Nat → Prop) (D : ah_G) (F : ah_F) {x n : Nat} {P : ah_Pt} {dr S : List Nat} {td : Int32} (hC : ah_C D F x P n dr S td) {y : Nat} (hy1 : 1 ≤ y) (hy2 : y ≤ 26) (hl0 : S.length < 200) : Met l yX6_take (Cond.code yX6_take cX6_take 3 (some .int) :: ah_T) { frames := 3, cells := 0, slots := 0, locals := 71 } (va_Pc [.ref x, .int (nI (y + 96))] (ah_B A D F)) (ah_Qi A D (fun (r : Int32) F1 => nI (ah_e1 P (S ++ [y])) = r ∧ ah_C D F1 x P n dr (S ++ [y]) (td + r) ∧ ah_out D F F1 ∧ ah_kw F F1)) 0 0 A := by
  refine ah_met (own := "Ahoarch") (by decide) rfl (Nat.le_of_ble_eq_true rfl) ?_
  intro p e s m below meth c ls E hr hini hl hP hS Q hQ
  have hx := E.1
  have hb := E.2.1
  have hl : lv_has ls 3 [(0, .ref x), (1, .int (nI (y + 96)))] := hl
  obtain ⟨b, ra, st, la, ch, cp, cl, tx, ta, dw, rf, lf, pf, plf, tf, cc, tc, pr, hxx, hbk, hra, hrows, hst, hla, hstr, hch, hcp, hcl, htx, hta, hdw, hdok, hn40, hPn, hpr, hpr20⟩ := id hC
  obtain ⟨hS1, hS2, hS3⟩ := id hstr
  refine lv_aload_n hx hb dX6_take_0 rfl (lv_at hl 0 rfl) ?_
  refine gf_Aho_19 E hP hxx rfl dX6_take_1 ?_
  refine lv_iload_n hx hb dX6_take_4 rfl (lv_at hl 1 rfl) ?_
  refine ah_callv (ah_runV E hP hS (As := [.int (nI (y + 96))]) (rest := []) (b := st) (c_Stream_add l A D _ hst hla hstr hy1 hy2 hl0) lk_Aho_222 li_Aho_222 hst rfl ⟨rfl, rfl, (Nat.le_of_ble_eq_true rfl), (Nat.le_of_ble_eq_true rfl)⟩ rfl hl.1 rfl (Nat.le_of_ble_eq_true rfl) dX6_take_5 ⟨(Nat.le_of_ble_eq_true rfl), (Nat.le_of_ble_eq_true rfl)⟩) hS (fun F1 H locs hsa hP hS => ?_)
  obtain ⟨Fm, eFm⟩ : ∃ Fz : ah_F, Fz = ah_up F la (ah_al D 201 (vp_updL lf (S.length + 1) (lN (ah_enc (ah_l8 (S ++ [y])))))) := ⟨_, rfl⟩
  rw [← eFm] at hsa
  have hG2 : Fm x = some (.inr (6, [.ref b, .ref st, .ref ch, .ref tx, .ref dw, .int td])) := by rw [eFm]; exact ah_keep hla hxx rfl
  have hG3 : Fm b = some (.inr (0, [.ref ra, .int (nI n), .int (nI pr)])) := by rw [eFm]; exact ah_keep hla hbk rfl
  have hG4 : Fm ra = some (ah_aq D 40 rf) := by rw [eFm]; exact ah_keep hla hra rfl
  have hG5 : Fm st = some (.inr (3, [.ref la, .int (nI S.length)])) := by rw [eFm]; exact ah_keep hla hst rfl
  have hG6 : Fm ch = some (.inr (1, [.ref cp, .ref cl, .int (nI cc)])) := by rw [eFm]; exact ah_keep hla hch rfl
  have hG7 : Fm cp = some (ah_aq D 200 pf) := by rw [eFm]; exact ah_keep hla hcp rfl
  have hG8 : Fm cl = some (ah_ai D 200 plf) := by rw [eFm]; exact ah_keep hla hcl rfl
  have hG9 : Fm tx = some (.inr (4, [.ref ta, .int (nI tc)])) := by rw [eFm]; exact ah_keep hla htx rfl
  have hG10 : Fm ta = some (ah_ac D 1600 tf) := by rw [eFm]; exact ah_keep hla hta rfl
  have hG11 : Fm dw = some (.inr (5, [.long (lN (ah_enc dr)), .int (nI dr.length)])) := by rw [eFm]; exact ah_keep hla hdw rfl
  have hG12 : Fm la = some (ah_al D 201 (vp_updL lf (S.length + 1) (lN (ah_enc (ah_l8 (S ++ [y])))))) := by rw [eFm]; exact ah_up_s _ _ _
  have hC13 : ah_ch F Fm [la] := by rw [eFm]; exact ah_ch_u (ah_ch_r _ _) (by simp)
  have hG14 : F1 x = some (.inr (6, [.ref b, .ref st, .ref ch, .ref tx, .ref dw, .int td])) := by rw [hsa]; exact ah_keep hG5 hG2 rfl
  have hG15 : F1 b = some (.inr (0, [.ref ra, .int (nI n), .int (nI pr)])) := by rw [hsa]; exact ah_keep hG5 hG3 rfl
  have hG16 : F1 ra = some (ah_aq D 40 rf) := by rw [hsa]; exact ah_keep hG5 hG4 rfl
  have hG17 : F1 ch = some (.inr (1, [.ref cp, .ref cl, .int (nI cc)])) := by rw [hsa]; exact ah_keep hG5 hG6 rfl
  have hG18 : F1 cp = some (ah_aq D 200 pf) := by rw [hsa]; exact ah_keep hG5 hG7 rfl
  have hG19 : F1 cl = some (ah_ai D 200 plf) := by rw [hsa]; exact ah_keep hG5 hG8 rfl
  have hG20 : F1 tx = some (.inr (4, [.ref ta, .int (nI tc)])) := by rw [hsa]; exact ah_keep hG5 hG9 rfl
  have hG21 : F1 ta = some (ah_ac D 1600 tf) := by rw [hsa]; exact ah_keep hG5 hG10 rfl
  have hG22 : F1 dw = some (.inr (5, [.long (lN (ah_enc dr)), .int (nI dr.length)])) := by rw [hsa]; exact ah_keep hG5 hG11 rfl
  have hG23 : F1 la = some (ah_al D 201 (vp_updL lf (S.length + 1) (lN (ah_enc (ah_l8 (S ++ [y])))))) := by rw [hsa]; exact ah_keep hG5 hG12 rfl
  have hG24 : F1 st = some (.inr (3, [.ref la, .int (nI (S.length + 1))])) := by rw [hsa]; exact ah_up_s _ _ _
  have hC25 : ah_ch F F1 [st, la] := by rw [hsa]; exact ah_ch_u (ah_ch_w hC13) (by simp)
  have hst9 : F1 st = some (.inr (3, [.ref la, .int (nI (S ++ [y]).length)])) := by rw [List.length_append]; exact hG24
  have hstr9 := ah_str_snoc hstr hy1 hy2 hl0
  have hrows9 : ah_rows F1 rf P := (hrows.fr hC25 (ah_all2 (ah_nr_t hst rfl rfl) (ah_nr_t hla rfl rfl)))
  refine lv_aload_n hx hb dX6_take_8 rfl (lv_at hl 0 rfl) ?_
  refine gf_Aho_10 E hP hG14 rfl dX6_take_9 ?_
  refine lv_aload_n hx hb dX6_take_12 rfl (lv_at hl 0 rfl) ?_
  refine gf_Aho_19 E hP hG14 rfl dX6_take_13 ?_
  refine lv_aload_n hx hb dX6_take_16 rfl (lv_at hl 0 rfl) ?_
  refine gf_Aho_19 E hP hG14 rfl dX6_take_17 ?_
  refine gf_Aho_143 E hP hst9 rfl dX6_take_20 ?_
  refine ah_calli (ah_runV E hP hS (As := [.ref st, .int (nI ((S ++ [y]).length))]) (rest := []) (b := b) (c_Book_countBefore l A D _ hG15 hG16 hrows9 hst9 hG23 hstr9 (Nat.le_refl _)) lk_Aho_148 li_Aho_148 hG15 rfl ⟨rfl, rfl, (Nat.le_of_ble_eq_true rfl), (Nat.le_of_ble_eq_true rfl)⟩ rfl hl.1 rfl (Nat.le_of_ble_eq_true rfl) dX6_take_23 ⟨(Nat.le_of_ble_eq_true rfl), (Nat.le_of_ble_eq_true rfl)⟩) hS (fun r F26 H locs hq hP hS => ?_)
  obtain ⟨rfl, rfl⟩ := hq
  refine lv_istore_n (lv' := [(2, .int (nI (ah_e1 P (S ++ [y])))), (0, .ref x), (1, .int (nI (y + 96)))]) hx hb dX6_take_26 rfl hl (by decide) rfl (fun ls hl => ?_)
  refine lv_aload_n hx hb dX6_take_27 rfl (lv_at hl 1 rfl) ?_
  refine lv_dup hx hb dX6_take_28 rfl ?_
  refine gf_Aho_46 E hP hG14 rfl dX6_take_29 ?_
  refine lv_iload_n hx hb dX6_take_32 rfl (lv_at hl 0 rfl) ?_
  refine lv_iadd hx hb dX6_take_33 ?_
  refine pf_Aho_46 E hP hS hG14 (Nat.le_of_ble_eq_true rfl) dX6_take_34 (fun H locs hP hS => ?_)
  obtain ⟨F27, eF27⟩ : ∃ Fz : ah_F, Fz = ah_up F1 x (.inr (6, [.ref b, .ref st, .ref ch, .ref tx, .ref dw, .int (td + (nI (ah_e1 P (S ++ [y]))))])) := ⟨_, rfl⟩
  have hP : ah_K A D F27 H := by rw [eF27]; exact hP
  have hF28 : F27 x = some (.inr (6, [.ref b, .ref st, .ref ch, .ref tx, .ref dw, .int (td + (nI (ah_e1 P (S ++ [y]))))])) := by rw [eF27]; exact ah_up_s _ _ _
  have hF29 : F27 b = some (.inr (0, [.ref ra, .int (nI n), .int (nI pr)])) := by rw [eF27]; exact ah_keep hG14 hG15 rfl
  have hF30 : F27 ra = some (ah_aq D 40 rf) := by rw [eF27]; exact ah_keep hG14 hG16 rfl
  have hF31 : F27 ch = some (.inr (1, [.ref cp, .ref cl, .int (nI cc)])) := by rw [eF27]; exact ah_keep hG14 hG17 rfl
  have hF32 : F27 cp = some (ah_aq D 200 pf) := by rw [eF27]; exact ah_keep hG14 hG18 rfl
  have hF33 : F27 cl = some (ah_ai D 200 plf) := by rw [eF27]; exact ah_keep hG14 hG19 rfl
  have hF34 : F27 tx = some (.inr (4, [.ref ta, .int (nI tc)])) := by rw [eF27]; exact ah_keep hG14 hG20 rfl
  have hF35 : F27 ta = some (ah_ac D 1600 tf) := by rw [eF27]; exact ah_keep hG14 hG21 rfl
  have hF36 : F27 dw = some (.inr (5, [.long (lN (ah_enc dr)), .int (nI dr.length)])) := by rw [eF27]; exact ah_keep hG14 hG22 rfl
  have hF37 : F27 la = some (ah_al D 201 (vp_updL lf (S.length + 1) (lN (ah_enc (ah_l8 (S ++ [y])))))) := by rw [eF27]; exact ah_keep hG14 hG23 rfl
  have hF38 : F27 st = some (.inr (3, [.ref la, .int (nI ((S ++ [y]).length))])) := by rw [eF27]; exact ah_keep hG14 hst9 rfl
  have hC39 : ah_ch F F27 [x, st, la] := by rw [eF27]; exact ah_ch_u (ah_ch_w hC25) (by simp)
  refine lv_iload_n hx hb dX6_take_37 rfl (lv_at hl 0 rfl) ?_
  rw [hQ]
  exact ah_iret E hr hP hS ⟨rfl, ⟨b, ra, st, la, ch, cp, cl, tx, ta, dw, _, _, _, _, _, _, _, _, hF28, hF29, hF30, (hrows.fr hC39 (ah_all3 (ah_nr_t hxx rfl rfl) (ah_nr_t hst rfl rfl) (ah_nr_t hla rfl rfl))), hF38, hF37, hstr9, hF31, hF32, hF33, hF34, hF35, hF36, hdok, hn40, hPn, hpr, hpr20⟩, (ah_out_c hC39 (ah_all3 (ah_no_t hxx rfl) (ah_no_t hst rfl) (ah_no_t hla rfl))), (ah_kw_c hC39 (ah_all3 (ah_nr_t hxx rfl rfl) (ah_nr_t hst rfl rfl) (ah_nr_t hla rfl rfl)))⟩ (Nat.le_of_ble_eq_true rfl) (Nat.le_of_ble_eq_true rfl) dX6_take_38

set_option maxHeartbeats 4000000 in
set_option maxRecDepth 100000 in
/-- feed -/
theorem c_feed (l : Launch) (hl1 : l.stackTraces = false) (A : Nat → Prop) (D : ah_G) (F : ah_F) {x n : Nat} {P : ah_Pt} {dr S : List Nat} {td : Int32} (hC : ah_C D F x P n dr S td) {cv : Nat} (hcv : cv < 65536) : vx_Met l yX6_feed (Cond.code yX6_feed cX6_feed 2 (some .int) :: ah_T) { frames := 7, cells := 2, slots := 12, locals := 103 } (va_Pc [.ref x, .int (nI cv)] (ah_B A D F)) (ah_Qi A D (fun (r : Int32) F1 => ∃ y : Nat, cv = y + 96 ∧ 1 ≤ y ∧ y ≤ 26 ∧ S.length < 200 ∧ nI (ah_e1 P (S ++ [y])) = r ∧ ah_C D F1 x P n dr (S ++ [y]) (td + r) ∧ ah_out D F F1)) (ah_X A D (fun E F1 => F = F1 ∧ ((E = "java/lang/IllegalArgumentException" ∧ (cv < 97 ∨ 122 < cv)) ∨ (E = "java/lang/IllegalStateException" ∧ 97 ≤ cv ∧ cv ≤ 122 ∧ 200 ≤ S.length)))) 2 12 A := by
  refine ah_xmet (own := "Ahoarch") (by decide) rfl (Nat.le_of_ble_eq_true rfl) ?_
  intro p e s m below meth c ls E hr htab hl hP hS Q hQ
  have hx := E.1
  have hb := E.2.1
  have hl : lv_has ls 2 [(0, .ref x), (1, .int (nI cv))] := hl
  obtain ⟨b, ra, st, la, ch, cp, cl, tx, ta, dw, rf, lf, pf, plf, tf, cc, tc, pr, hxx, hbk, hra, hrows, hst, hla, hstr, hch, hcp, hcl, htx, hta, hdw, hdok, hn40, hPn, hpr, hpr20⟩ := id hC
  obtain ⟨hS1, hS2, hS3⟩ := id hstr
  refine lv_iload_n hx hb dX6_feed_0 rfl (lv_at hl 1 rfl) ?_
  refine ah_xcallv (ah_xrunS E hP hS (As := [.int (nI cv)]) (rest := []) (c_needLetter l hl1 A D _ hcv) lk_Aho_50 li_Aho_50 ⟨rfl, rfl, (Nat.le_of_ble_eq_true rfl), (Nat.le_of_ble_eq_true rfl)⟩ rfl hl.1 rfl (Nat.le_of_ble_eq_true rfl) dX6_feed_1 ⟨(Nat.le_of_ble_eq_true rfl), (Nat.le_of_ble_eq_true rfl)⟩) hS (fun E0 q9 Fx H locs hT => ?_) (fun F1 H locs hq hP hS => ?_)
  · skip
    rw [hQ]
    exact ah_xout E htab hT (fun h => ⟨h.1, Or.inl h.2⟩) (Nat.le_of_ble_eq_true rfl) (Nat.le_of_ble_eq_true rfl)
  · skip
    obtain ⟨rfl, hlo, hhi⟩ := hq
    obtain ⟨y, rfl⟩ : ∃ y, cv = y + 96 := ⟨cv - 96, by omega⟩
    refine lv_aload_n hx hb dX6_feed_4 rfl (lv_at hl 0 rfl) ?_
    refine lv_iconst (v := (nI 1)) hx hb dX6_feed_5 (by decide) ?_
    refine ah_xcallv (ah_xrunV E hP hS (As := [.int (nI 1)]) (rest := []) (b := x) (c_needRoom l hl1 A D _ hst hla hstr hxx (k := 1) (by omega)) lk_Aho_131 li_Aho_131 hxx rfl ⟨rfl, rfl, (Nat.le_of_ble_eq_true rfl), (Nat.le_of_ble_eq_true rfl)⟩ rfl hl.1 rfl (Nat.le_of_ble_eq_true rfl) dX6_feed_6 ⟨(Nat.le_of_ble_eq_true rfl), (Nat.le_of_ble_eq_true rfl)⟩) hS (fun E0 q9 Fx H locs hT => ?_) (fun F2 H locs hq hP hS => ?_)
    · skip
      rw [hQ]
      exact ah_xout E htab hT (fun h => ⟨h.1, Or.inr ⟨h.2.1, hlo, hhi, by omega⟩⟩) (Nat.le_of_ble_eq_true rfl) (Nat.le_of_ble_eq_true rfl)
    · skip
      obtain ⟨rfl, hrm⟩ := hq
      refine lv_aload_n hx hb dX6_feed_9 rfl (lv_at hl 0 rfl) ?_
      refine lv_iload_n hx hb dX6_feed_10 rfl (lv_at hl 1 rfl) ?_
      refine ah_calli (ah_runV E hP hS (As := [.int (nI (y + 96))]) (rest := []) (b := x) (c_take l A D _ hC (y := y) (by omega) (by omega) (by omega)) lk_Aho_135 li_Aho_135 hxx rfl ⟨rfl, rfl, (Nat.le_of_ble_eq_true rfl), (Nat.le_of_ble_eq_true rfl)⟩ rfl hl.1 rfl (Nat.le_of_ble_eq_true rfl) dX6_feed_11 ⟨(Nat.le_of_ble_eq_true rfl), (Nat.le_of_ble_eq_true rfl)⟩) hS (fun r F3 H locs htk hP hS => ?_)
      rw [hQ]
      exact vx_ret (ah_iret E hr hP hS ⟨y, rfl, by omega, by omega, by omega, htk.1, htk.2.1, htk.2.2.1⟩ (Nat.le_of_ble_eq_true rfl) (Nat.le_of_ble_eq_true rfl) dX6_feed_14)

set_option maxHeartbeats 4000000 in
set_option maxRecDepth 100000 in
/-- feedPattern -/
theorem c_feedPattern (l : Launch) (hl1 : l.stackTraces = false) (A : Nat → Prop) (D : ah_G) (F : ah_F) {x n : Nat} {P : ah_Pt} {dr S : List Nat} {td : Int32} (hC : ah_C D F x P n dr S td) {v0 : Int32} : vx_Met l yX6_feedPattern (Cond.code yX6_feedPattern cX6_feedPattern 5 (some .int) :: ah_T) { frames := 7, cells := 2, slots := 12, locals := 104 } (va_Pc [.ref x, .int v0] (ah_B A D F)) (ah_Qi A D (fun (r : Int32) F1 => ∃ (i : Nat) (w r0 : List Nat), ah_pi P v0 = some i ∧ P i = some (w, r0) ∧ S.length + w.length ≤ 200 ∧ nI (ah_fs P S w w.length) = r ∧ ah_C D F1 x P n dr (S ++ w) (td + r) ∧ ah_out D F F1)) (ah_X A D (fun E F1 => F = F1 ∧ ((E = "java/util/NoSuchElementException" ∧ ah_pi P v0 = none) ∨ (E = "java/lang/IllegalStateException" ∧ ∃ (i : Nat) (w r0 : List Nat), ah_pi P v0 = some i ∧ P i = some (w, r0) ∧ 200 < S.length + w.length)))) 2 12 A := by
  refine ah_xmet (own := "Ahoarch") (by decide) rfl (Nat.le_of_ble_eq_true rfl) ?_
  intro p e s m below meth c ls E hr htab hl hP hS Q hQ
  have hx := E.1
  have hb := E.2.1
  have hl : lv_has ls 5 [(0, .ref x), (1, .int v0)] := hl
  obtain ⟨b, ra, st, la, ch, cp, cl, tx, ta, dw, rf, lf, pf, plf, tf, cc, tc, pr, hxx, hbk, hra, hrows, hst, hla, hstr, hch, hcp, hcl, htx, hta, hdw, hdok, hn40, hPn, hpr, hpr20⟩ := id hC
  obtain ⟨hS1, hS2, hS3⟩ := id hstr
  refine lv_aload_n hx hb dX6_feedPattern_0 rfl (lv_at hl 0 rfl) ?_
  refine lv_iload_n hx hb dX6_feedPattern_1 rfl (lv_at hl 1 rfl) ?_
  refine ah_xcallq (ah_xrunV E hP hS (As := [.int v0]) (rest := []) (b := x) (c_need l hl1 A D _ hbk hra hrows hxx (v0 := v0)) lk_Aho_86 li_Aho_86 hxx rfl ⟨rfl, rfl, (Nat.le_of_ble_eq_true rfl), (Nat.le_of_ble_eq_true rfl)⟩ rfl hl.1 rfl (Nat.le_of_ble_eq_true rfl) dX6_feedPattern_2 ⟨(Nat.le_of_ble_eq_true rfl), (Nat.le_of_ble_eq_true rfl)⟩) hS (fun E0 q9 Fx H locs hT => ?_) (fun r F1 H locs hq hP hS => ?_)
  · skip
    rw [hQ]
    exact ah_xout E htab hT (fun h => ⟨h.1, Or.inl h.2⟩) (Nat.le_of_ble_eq_true rfl) (Nat.le_of_ble_eq_true rfl)
  · skip
    obtain ⟨rfl, i, q, w, r0, lw, lr, rfl, hpi, hi40, hvi, hri, hPi, hqo, hlw, hlr, hok, hokr, hne⟩ := hq
    have hwl := hok.1
    refine gf_Aho_102 E hP hqo rfl dX6_feedPattern_5 ?_
    refine lv_astore_n (lv' := [(2, .ref lw), (0, .ref x), (1, .int v0)]) hx hb dX6_feedPattern_8 rfl hl (by decide) rfl (fun ls hl => ?_)
    refine lv_aload_n hx hb dX6_feedPattern_9 rfl (lv_at hl 1 rfl) ?_
    refine lv_aload_n hx hb dX6_feedPattern_10 rfl (lv_at hl 0 rfl) ?_
    refine gf_Aho_54 E hP hlw rfl dX6_feedPattern_11 ?_
    refine ah_xcallv (ah_xrunV E hP hS (As := [.int (nI w.length)]) (rest := []) (b := x) (c_needRoom l hl1 A D _ hst hla hstr hxx (k := w.length) (by omega)) lk_Aho_131 li_Aho_131 hxx rfl ⟨rfl, rfl, (Nat.le_of_ble_eq_true rfl), (Nat.le_of_ble_eq_true rfl)⟩ rfl hl.1 rfl (Nat.le_of_ble_eq_true rfl) dX6_feedPattern_14 ⟨(Nat.le_of_ble_eq_true rfl), (Nat.le_of_ble_eq_true rfl)⟩) hS (fun E0 q9 Fx H locs hT => ?_) (fun F2 H locs hq hP hS => ?_)
    · skip
      rw [hQ]
      exact ah_xout E htab hT (fun h => ⟨h.1, Or.inr ⟨h.2.1, i, w, r0, hpi, hPi, h.2.2⟩⟩) (Nat.le_of_ble_eq_true rfl) (Nat.le_of_ble_eq_true rfl)
    · skip
      obtain ⟨rfl, hrm⟩ := hq
      refine lv_iconst (v := (nI 0)) hx hb dX6_feedPattern_17 (by decide) ?_
      refine lv_istore_n (lv' := [(3, .int (nI 0)), (2, .ref lw), (0, .ref x), (1, .int v0)]) hx hb dX6_feedPattern_18 rfl hl (by decide) rfl (fun ls hl => ?_)
      refine lv_iconst (v := (nI 0)) hx hb dX6_feedPattern_19 (by decide) ?_
      refine lv_istore (lv' := [(4, .int (nI 0)), (3, .int (nI 0)), (2, .ref lw), (0, .ref x), (1, .int v0)]) hx hb dX6_feedPattern_20 hl (by decide) rfl (fun ls hl => ?_)
      have L22 : ∀ (fuel : Nat), ∀ (Fv : ah_F) (k a : Nat), w.length - k < fuel → k ≤ w.length → a = ah_fs P S w k → ah_C D Fv x P n dr (S ++ w.take k) (td + nI a) → ah_out D F Fv → ah_kw F Fv → ∀ (H : Heap) (locs : List Loc), ah_K A D Fv H → va_S A s.heap H locs → ∀ (ls : Array Slot), lv_has ls 5 [(0, .ref x), (2, .ref lw), (3, .int (nI a)), (4, .int (nI k))] → W p l e { frames := 7, cells := 2, slots := 12, locals := 104 } s m [.ref x, .int v0].toArray below meth c H locs ((0 + 1) + 1) ((0 + 6) + 6) Q (F0 m 22 ls []) := by
        intro fuel
        induction fuel with
        | zero =>
          intro Fv k a hm
          exact absurd hm (Nat.not_lt_zero _)
        | succ fuel ih =>
          intro Fv k a hm hk ha hCk houtv hkwv H locs hP hS ls hl
          obtain ⟨bv, rav, stv, lav, chv, cpv, clv, txv, tav, dwv, rfv, lfv, pfv, plfv, tfv, ccv, tcv, prv, gxx, gbk, gra, grows, gst, gla, gstr, gch, gcp, gcl, gtx, gta, gdw, gdok, -⟩ := id hCk
          have glw : ah_wd Fv lw w := hkwv _ _ _ (Or.inr rfl) hlw
          have hb2 := ah_fs_le P S w k
          have hsl : (S ++ w.take k).length = S.length + k := by rw [List.length_append, List.length_take]; omega
          refine lv_iload hx hb dX6_feedPattern_22 (lv_at hl 3 rfl) ?_
          refine lv_aload_n hx hb dX6_feedPattern_24 rfl (lv_at hl 1 rfl) ?_
          refine gf_Aho_54 E hP glw rfl dX6_feedPattern_25 ?_
          refine ah_icmp_ge (tgt := 50) hx hb (by omega) (by omega) dX6_feedPattern_28 (by decide) (fun hc28 => ?_) (fun hc28 => ?_)
          · skip
            refine lv_iload_n hx hb dX6_feedPattern_50 rfl (lv_at hl 2 rfl) ?_
            rw [hQ]
            exact vx_ret (ah_iret E hr hP hS ⟨i, w, r0, hpi, hPi, hrm, by rw [ha, show k = w.length by omega], by rw [show k = w.length by omega, List.take_length] at hCk; exact hCk, houtv⟩ (Nat.le_of_ble_eq_true rfl) (Nat.le_of_ble_eq_true rfl) dX6_feedPattern_51)
          · skip
            refine lv_iload_n hx hb dX6_feedPattern_31 rfl (lv_at hl 2 rfl) ?_
            refine lv_aload_n hx hb dX6_feedPattern_32 rfl (lv_at hl 0 rfl) ?_
            refine lv_aload_n hx hb dX6_feedPattern_33 rfl (lv_at hl 1 rfl) ?_
            refine lv_iload hx hb dX6_feedPattern_34 (lv_at hl 3 rfl) ?_
            refine ah_calli (ah_runV E hP hS (As := [.int (nI k)]) (rest := [.ref x, .int (nI a)]) (b := lw) (c_Word_letterAt l A D _ glw hok (i := k) (by omega)) lk_Aho_139 li_Aho_139 glw rfl ⟨rfl, rfl, (Nat.le_of_ble_eq_true rfl), (Nat.le_of_ble_eq_true rfl)⟩ rfl hl.1 rfl (Nat.le_of_ble_eq_true rfl) dX6_feedPattern_36 ⟨(Nat.le_of_ble_eq_true rfl), (Nat.le_of_ble_eq_true rfl)⟩) hS (fun r F3 H locs hq hP hS => ?_)
            obtain ⟨rfl, rfl⟩ := hq
            have hlt0 : 1 ≤ w.getD k 0 ∧ w.getD k 0 ≤ 26 := by rw [List.getD_eq_getElem?_getD, List.getElem?_eq_getElem (by omega)]; exact hok.2 _ (List.getElem_mem (by omega))
            have hsnoc : S ++ w.take k ++ [w.getD k 0] = S ++ w.take (k + 1) := by rw [List.append_assoc, ← ah_take_s (by omega)]
            rw [Nat.add_comm 96 (w.getD k 0)]
            refine ah_calli (ah_runV E hP hS (As := [.int (nI (w.getD k 0 + 96))]) (rest := [.int (nI a)]) (b := x) (c_take l A D _ hCk (y := w.getD k 0) hlt0.1 hlt0.2 (by omega)) lk_Aho_135 li_Aho_135 gxx rfl ⟨rfl, rfl, (Nat.le_of_ble_eq_true rfl), (Nat.le_of_ble_eq_true rfl)⟩ rfl hl.1 rfl (Nat.le_of_ble_eq_true rfl) dX6_feedPattern_39 ⟨(Nat.le_of_ble_eq_true rfl), (Nat.le_of_ble_eq_true rfl)⟩) hS (fun r F4 H locs htk hP hS => ?_)
            obtain ⟨ht1, ht2, ht3, ht4⟩ := htk
            rw [hsnoc] at ht1 ht2
            subst ht1
            have he1 : ah_e1 P (S ++ w.take (k + 1)) ≤ 40 := pu_cn_le _ _
            refine ah_iadd hx hb dX6_feedPattern_42 ?_
            refine lv_istore_n (lv' := [(3, .int (nI (a + (ah_e1 P (S ++ w.take (k + 1)))))), (0, .ref x), (2, .ref lw), (4, .int (nI k))]) hx hb dX6_feedPattern_43 rfl hl (by decide) rfl (fun ls hl => ?_)
            refine lv_iinc (v := (nI (k + 1))) (lv' := [(4, .int (nI (k + 1))), (3, .int (nI (a + (ah_e1 P (S ++ w.take (k + 1)))))), (0, .ref x), (2, .ref lw)]) hx hb dX6_feedPattern_44 hl (k := 3) rfl (ah_inc _) (by decide) rfl (fun ls hl => ?_)
            refine lv_goto (tgt := 22) hx hb dX6_feedPattern_47 (by decide) ?_
            exact ih _ (k + 1) _ (by omega) (by omega) (by rw [ah_fs, ← ha]) (by rw [← nI_add, ← Int32.add_assoc]; exact ht2) (ah_out_t houtv ht3) (ah_kw_t hkwv ht4) _ _ hP hS ls (lv_sub hl [2, 3, 1, 0] rfl)
      exact L22 (w.length + 1) F 0 0 (by omega) (Nat.zero_le _) rfl (by rw [List.take_zero, List.append_nil, show td + nI 0 = td from Int32.add_zero td]; exact hC) (ah_out_r D F) (ah_kw_r F) _ _ hP hS ls (lv_sub hl [3, 2, 1, 0] rfl)

set_option maxHeartbeats 4000000 in
set_option maxRecDepth 100000 in
/-- draft -/
theorem c_draft (l : Launch) (hl1 : l.stackTraces = false) (A : Nat → Prop) (D : ah_G) (F : ah_F) {x n : Nat} {P : ah_Pt} {dr S : List Nat} {td : Int32} (hC : ah_C D F x P n dr S td) {cv : Nat} (hcv : cv < 65536) : vx_Met l yX6_draft (Cond.code yX6_draft cX6_draft 2 (some .int) :: ah_T) { frames := 7, cells := 2, slots := 12, locals := 102 } (va_Pc [.ref x, .int (nI cv)] (ah_B A D F)) (ah_Qi A D (fun (r : Int32) F1 => ∃ y : Nat, cv = y + 96 ∧ 1 ≤ y ∧ y ≤ 26 ∧ dr.length < 8 ∧ nI (dr.length + 1) = r ∧ ah_C D F1 x P n (dr ++ [y]) S td ∧ ah_out D F F1)) (ah_X A D (fun E F1 => F = F1 ∧ ((E = "java/lang/IllegalArgumentException" ∧ (cv < 97 ∨ 122 < cv)) ∨ (E = "java/lang/IllegalStateException" ∧ 97 ≤ cv ∧ cv ≤ 122 ∧ 8 ≤ dr.length)))) 2 12 A := by
  refine ah_xmet (own := "Ahoarch") (by decide) rfl (Nat.le_of_ble_eq_true rfl) ?_
  intro p e s m below meth c ls E hr htab hl hP hS Q hQ
  have hx := E.1
  have hb := E.2.1
  have hl : lv_has ls 2 [(0, .ref x), (1, .int (nI cv))] := hl
  obtain ⟨b, ra, st, la, ch, cp, cl, tx, ta, dw, rf, lf, pf, plf, tf, cc, tc, pr, hxx, hbk, hra, hrows, hst, hla, hstr, hch, hcp, hcl, htx, hta, hdw, hdok, hn40, hPn, hpr, hpr20⟩ := id hC
  obtain ⟨hS1, hS2, hS3⟩ := id hstr
  refine lv_iload_n hx hb dX6_draft_0 rfl (lv_at hl 1 rfl) ?_
  refine ah_xcallv (ah_xrunS E hP hS (As := [.int (nI cv)]) (rest := []) (c_needLetter l hl1 A D _ hcv) lk_Aho_50 li_Aho_50 ⟨rfl, rfl, (Nat.le_of_ble_eq_true rfl), (Nat.le_of_ble_eq_true rfl)⟩ rfl hl.1 rfl (Nat.le_of_ble_eq_true rfl) dX6_draft_1 ⟨(Nat.le_of_ble_eq_true rfl), (Nat.le_of_ble_eq_true rfl)⟩) hS (fun E0 q9 Fx H locs hT => ?_) (fun F1 H locs hq hP hS => ?_)
  · skip
    rw [hQ]
    exact ah_xout E htab hT (fun h => ⟨h.1, Or.inl h.2⟩) (Nat.le_of_ble_eq_true rfl) (Nat.le_of_ble_eq_true rfl)
  · skip
    obtain ⟨rfl, hlo, hhi⟩ := hq
    have hdl := hdok.1
    obtain ⟨y, hcy⟩ : ∃ y, cv = y + 96 := ⟨cv - 96, by omega⟩
    rw [hcy] at hl
    refine lv_aload_n hx hb dX6_draft_4 rfl (lv_at hl 0 rfl) ?_
    refine gf_Aho_42 E hP hxx rfl dX6_draft_5 ?_
    refine gf_Aho_54 E hP hdw rfl dX6_draft_8 ?_
    refine lv_bipush (v := (nI 8)) hx hb dX6_draft_11 (by decide) ?_
    refine ah_icmp_lt (tgt := 26) hx hb (by omega) (by omega) dX6_draft_13 (by decide) (fun hc13 => ?_) (fun hc13 => ?_)
    · skip
      refine lv_aload_n hx hb dX6_draft_26 rfl (lv_at hl 0 rfl) ?_
      refine lv_aload_n hx hb dX6_draft_27 rfl (lv_at hl 0 rfl) ?_
      refine gf_Aho_42 E hP hxx rfl dX6_draft_28 ?_
      refine lv_iload_n hx hb dX6_draft_31 rfl (lv_at hl 1 rfl) ?_
      refine ah_callq (ah_runV E hP hS (As := [.int (nI (y + 96))]) (rest := [.ref x]) (b := dw) (c_Word_with l A D _ hdw hdok (x := y) (by omega) (by omega)) lk_Aho_64 li_Aho_64 hdw rfl ⟨rfl, rfl, (Nat.le_of_ble_eq_true rfl), (Nat.le_of_ble_eq_true rfl)⟩ rfl hl.1 rfl (Nat.le_of_ble_eq_true rfl) dX6_draft_32 ⟨(Nat.le_of_ble_eq_true rfl), (Nat.le_of_ble_eq_true rfl)⟩) hS (fun r F2 H locs hwt hP hS => ?_)
      obtain ⟨w9, rfl, hn_w9, hwe⟩ := hwt
      have hG3 : F2 x = some (.inr (6, [.ref b, .ref st, .ref ch, .ref tx, .ref dw, .int td])) := by rw [hwe]; exact (ah_up_n _ _ (ah_fr hn_w9 hxx)).trans hxx
      have hG4 : F2 b = some (.inr (0, [.ref ra, .int (nI n), .int (nI pr)])) := by rw [hwe]; exact (ah_up_n _ _ (ah_fr hn_w9 hbk)).trans hbk
      have hG5 : F2 ra = some (ah_aq D 40 rf) := by rw [hwe]; exact (ah_up_n _ _ (ah_fr hn_w9 hra)).trans hra
      have hG6 : F2 st = some (.inr (3, [.ref la, .int (nI S.length)])) := by rw [hwe]; exact (ah_up_n _ _ (ah_fr hn_w9 hst)).trans hst
      have hG7 : F2 la = some (ah_al D 201 lf) := by rw [hwe]; exact (ah_up_n _ _ (ah_fr hn_w9 hla)).trans hla
      have hG8 : F2 ch = some (.inr (1, [.ref cp, .ref cl, .int (nI cc)])) := by rw [hwe]; exact (ah_up_n _ _ (ah_fr hn_w9 hch)).trans hch
      have hG9 : F2 cp = some (ah_aq D 200 pf) := by rw [hwe]; exact (ah_up_n _ _ (ah_fr hn_w9 hcp)).trans hcp
      have hG10 : F2 cl = some (ah_ai D 200 plf) := by rw [hwe]; exact (ah_up_n _ _ (ah_fr hn_w9 hcl)).trans hcl
      have hG11 : F2 tx = some (.inr (4, [.ref ta, .int (nI tc)])) := by rw [hwe]; exact (ah_up_n _ _ (ah_fr hn_w9 htx)).trans htx
      have hG12 : F2 ta = some (ah_ac D 1600 tf) := by rw [hwe]; exact (ah_up_n _ _ (ah_fr hn_w9 hta)).trans hta
      have hG13 : F2 dw = some (.inr (5, [.long (lN (ah_enc dr)), .int (nI dr.length)])) := by rw [hwe]; exact (ah_up_n _ _ (ah_fr hn_w9 hdw)).trans hdw
      have hG14 : F2 w9 = some (.inr (5, [.long (lN (ah_enc (dr ++ [y]))), .int (nI ((dr ++ [y]).length))])) := by rw [hwe]; exact ah_up_s _ _ _
      have hz_w9 : F w9 = none := hn_w9
      have hC15 : ah_ch F F2 [w9] := by rw [hwe]; exact ah_ch_u (ah_ch_r _ _) (by simp)
      refine pf_Aho_42 E hP hS hG3 (Nat.le_of_ble_eq_true rfl) dX6_draft_35 (fun H locs hP hS => ?_)
      obtain ⟨F16, eF16⟩ : ∃ Fz : ah_F, Fz = ah_up F2 x (.inr (6, [.ref b, .ref st, .ref ch, .ref tx, .ref w9, .int td])) := ⟨_, rfl⟩
      have hP : ah_K A D F16 H := by rw [eF16]; exact hP
      have hF17 : F16 x = some (.inr (6, [.ref b, .ref st, .ref ch, .ref tx, .ref w9, .int td])) := by rw [eF16]; exact ah_up_s _ _ _
      have hF18 : F16 b = some (.inr (0, [.ref ra, .int (nI n), .int (nI pr)])) := by rw [eF16]; exact ah_keep hG3 hG4 rfl
      have hF19 : F16 ra = some (ah_aq D 40 rf) := by rw [eF16]; exact ah_keep hG3 hG5 rfl
      have hF20 : F16 st = some (.inr (3, [.ref la, .int (nI S.length)])) := by rw [eF16]; exact ah_keep hG3 hG6 rfl
      have hF21 : F16 la = some (ah_al D 201 lf) := by rw [eF16]; exact ah_keep hG3 hG7 rfl
      have hF22 : F16 ch = some (.inr (1, [.ref cp, .ref cl, .int (nI cc)])) := by rw [eF16]; exact ah_keep hG3 hG8 rfl
      have hF23 : F16 cp = some (ah_aq D 200 pf) := by rw [eF16]; exact ah_keep hG3 hG9 rfl
      have hF24 : F16 cl = some (ah_ai D 200 plf) := by rw [eF16]; exact ah_keep hG3 hG10 rfl
      have hF25 : F16 tx = some (.inr (4, [.ref ta, .int (nI tc)])) := by rw [eF16]; exact ah_keep hG3 hG11 rfl
      have hF26 : F16 ta = some (ah_ac D 1600 tf) := by rw [eF16]; exact ah_keep hG3 hG12 rfl
      have hF27 : F16 dw = some (.inr (5, [.long (lN (ah_enc dr)), .int (nI dr.length)])) := by rw [eF16]; exact ah_keep hG3 hG13 rfl
      have hF28 : F16 w9 = some (.inr (5, [.long (lN (ah_enc (dr ++ [y]))), .int (nI ((dr ++ [y]).length))])) := by rw [eF16]; exact ah_keep hG3 hG14 rfl
      have hC29 : ah_ch F F16 [x, w9] := by rw [eF16]; exact ah_ch_u (ah_ch_w hC15) (by simp)
      refine lv_aload_n hx hb dX6_draft_38 rfl (lv_at hl 0 rfl) ?_
      refine gf_Aho_42 E hP hF17 rfl dX6_draft_39 ?_
      refine gf_Aho_54 E hP hF28 rfl dX6_draft_42 ?_
      rw [hQ]
      exact vx_ret (ah_iret E hr hP hS ⟨y, hcy, by omega, by omega, hc13, by rw [List.length_append]; rfl, ⟨b, ra, st, la, ch, cp, cl, tx, ta, w9, _, _, _, _, _, _, _, _, hF17, hF18, hF19, (hrows.fr hC29 (ah_all2 (ah_nr_t hxx rfl rfl) (ah_nr_n hz_w9))), hF20, hF21, hstr, hF22, hF23, hF24, hF25, hF26, hF28, ⟨by rw [List.length_append]; show dr.length + 1 ≤ 8; omega, ah_lt_app.mpr ⟨hdok.2, fun z hz => by simp at hz; omega⟩⟩, hn40, hPn, hpr, hpr20⟩, (ah_out_c hC29 (ah_all2 (ah_no_t hxx rfl) (ah_no_n hz_w9)))⟩ (Nat.le_of_ble_eq_true rfl) (Nat.le_of_ble_eq_true rfl) dX6_draft_45)
    · skip
      rw [hQ]
      exact ah_throw (text := "the draft has 8 letters") (px := (fun E F1 => F = F1 ∧ ((E = "java/lang/IllegalArgumentException" ∧ (cv < 97 ∨ 122 < cv)) ∨ (E = "java/lang/IllegalStateException" ∧ 97 ≤ cv ∧ cv ≤ 122 ∧ 8 ≤ dr.length)))) hl1 E htab hP hS hl.1 tw_ise (by simp [ah_Strs]) dX6_draft_16 dX6_draft_19 dX6_draft_20 dX6_draft_22 dX6_draft_25 (Nat.le_of_ble_eq_true rfl) (Nat.le_of_ble_eq_true rfl) (Nat.le_of_ble_eq_true rfl) (Nat.le_of_ble_eq_true rfl) (Nat.le_of_ble_eq_true rfl) (Nat.le_of_ble_eq_true rfl) ⟨rfl, Or.inr ⟨rfl, hlo, hhi, hc13⟩⟩

set_option maxHeartbeats 4000000 in
set_option maxRecDepth 100000 in
/-- enter -/
theorem c_enter (l : Launch) (hl1 : l.stackTraces = false) (A : Nat → Prop) (D : ah_G) (F : ah_F) {x n : Nat} {P : ah_Pt} {dr S : List Nat} {td : Int32} (hC : ah_C D F x P n dr S td)  : vx_Met l yX6_enter (Cond.code yX6_enter cX6_enter 2 (some .int) :: ah_T) { frames := 6, cells := 3, slots := 7, locals := 87 } (va_Pc [.ref x] (ah_B A D F)) (ah_Qi A D (fun (r : Int32) F1 => ah_can P n dr = true ∧ nI n = r ∧ ah_C D F1 x (ah_ins P n dr) (n + 1) [] S td ∧ ah_out D F F1)) (ah_X A D (fun E F1 => F = F1 ∧ E = "java/lang/IllegalStateException" ∧ ah_can P n dr = false)) 3 7 A := by
  refine ah_xmet (own := "Ahoarch") (by decide) rfl (Nat.le_of_ble_eq_true rfl) ?_
  intro p e s m below meth c ls E hr htab hl hP hS Q hQ
  have hx := E.1
  have hb := E.2.1
  have hl : lv_has ls 2 [(0, .ref x)] := hl
  obtain ⟨b, ra, st, la, ch, cp, cl, tx, ta, dw, rf, lf, pf, plf, tf, cc, tc, pr, hxx, hbk, hra, hrows, hst, hla, hstr, hch, hcp, hcl, htx, hta, hdw, hdok, hn40, hPn, hpr, hpr20⟩ := id hC
  obtain ⟨hS1, hS2, hS3⟩ := id hstr
  refine lv_aload_n hx hb dX6_enter_0 rfl (lv_at hl 0 rfl) ?_
  refine gf_Aho_42 E hP hxx rfl dX6_enter_1 ?_
  refine gf_Aho_54 E hP hdw rfl dX6_enter_4 ?_
  have hdl := hdok.1
  refine ah_if_ne (tgt := 20) hx hb (by omega) dX6_enter_7 (by decide) (fun hc7 => ?_) (fun hc7 => ?_)
  · skip
    refine lv_aload_n hx hb dX6_enter_20 rfl (lv_at hl 0 rfl) ?_
    refine gf_Aho_10 E hP hxx rfl dX6_enter_21 ?_
    refine lv_aload_n hx hb dX6_enter_24 rfl (lv_at hl 0 rfl) ?_
    refine gf_Aho_42 E hP hxx rfl dX6_enter_25 ?_
    refine ah_calli (ah_runV E hP hS (As := [.ref dw]) (rest := []) (b := b) (c_Book_has l A D _ hbk hra hrows hdw hdok) lk_Aho_70 li_Aho_70 hbk rfl ⟨rfl, rfl, (Nat.le_of_ble_eq_true rfl), (Nat.le_of_ble_eq_true rfl)⟩ rfl hl.1 rfl (Nat.le_of_ble_eq_true rfl) dX6_enter_28 ⟨(Nat.le_of_ble_eq_true rfl), (Nat.le_of_ble_eq_true rfl)⟩) hS (fun r F1 H locs hq hP hS => ?_)
    obtain ⟨rfl, rfl⟩ := hq
    refine ah_ifb_eq (tgt := 44) hx hb dX6_enter_31 (by decide) (fun hc31 => ?_) (fun hc31 => ?_)
    · skip
      refine lv_aload_n hx hb dX6_enter_44 rfl (lv_at hl 0 rfl) ?_
      refine gf_Aho_10 E hP hxx rfl dX6_enter_45 ?_
      refine ah_calli (ah_runV E hP hS (As := []) (rest := []) (b := b) (c_Book_isFull l A D _ hbk hra hrows hn40 (by omega)) lk_Aho_76 li_Aho_76 hbk rfl ⟨rfl, rfl, (Nat.le_of_ble_eq_true rfl), (Nat.le_of_ble_eq_true rfl)⟩ rfl hl.1 rfl (Nat.le_of_ble_eq_true rfl) dX6_enter_48 ⟨(Nat.le_of_ble_eq_true rfl), (Nat.le_of_ble_eq_true rfl)⟩) hS (fun r F2 H locs hq hP hS => ?_)
      obtain ⟨rfl, rfl⟩ := hq
      refine ah_ifb_eq (tgt := 64) hx hb dX6_enter_51 (by decide) (fun hc51 => ?_) (fun hc51 => ?_)
      · skip
        have hfull : pr < 20 ∧ n < 40 := by simpa using hc51
        refine lv_aload_n hx hb dX6_enter_64 rfl (lv_at hl 0 rfl) ?_
        refine gf_Aho_10 E hP hxx rfl dX6_enter_65 ?_
        refine lv_aload_n hx hb dX6_enter_68 rfl (lv_at hl 0 rfl) ?_
        refine gf_Aho_42 E hP hxx rfl dX6_enter_69 ?_
        refine ah_calli (ah_runV E hP hS (As := [.ref dw]) (rest := []) (b := b) (c_Book_add l A D _ hbk hra hrows hdw (by omega) (by omega)) lk_Aho_82 li_Aho_82 hbk rfl ⟨rfl, rfl, (Nat.le_of_ble_eq_true rfl), (Nat.le_of_ble_eq_true rfl)⟩ rfl hl.1 rfl (Nat.le_of_ble_eq_true rfl) dX6_enter_72 ⟨(Nat.le_of_ble_eq_true rfl), (Nat.le_of_ble_eq_true rfl)⟩) hS (fun r F3 H locs hba hP hS => ?_)
        obtain ⟨rfl, q, z, hn_q, hn_z, hbq, hbz, hbra, hbb, hbc⟩ := hba
        have hG4 : F3 x = some (.inr (6, [.ref b, .ref st, .ref ch, .ref tx, .ref dw, .int td])) := (hbc x (ah_nin4 (ah_ne hxx hbk rfl) (ah_ne hxx hra rfl) (ah_fr hn_z hxx) (ah_fr hn_q hxx))).trans hxx
        have hG5 : F3 st = some (.inr (3, [.ref la, .int (nI S.length)])) := (hbc st (ah_nin4 (ah_ne hst hbk rfl) (ah_ne hst hra rfl) (ah_fr hn_z hst) (ah_fr hn_q hst))).trans hst
        have hG6 : F3 la = some (ah_al D 201 lf) := (hbc la (ah_nin4 (ah_ne hla hbk rfl) (ah_ne hla hra rfl) (ah_fr hn_z hla) (ah_fr hn_q hla))).trans hla
        have hG7 : F3 ch = some (.inr (1, [.ref cp, .ref cl, .int (nI cc)])) := (hbc ch (ah_nin4 (ah_ne hch hbk rfl) (ah_ne hch hra rfl) (ah_fr hn_z hch) (ah_fr hn_q hch))).trans hch
        have hG8 : F3 cp = some (ah_aq D 200 pf) := (hbc cp (ah_nin4 (ah_ne hcp hbk rfl) (ah_ne hcp hra rfl) (ah_fr hn_z hcp) (ah_fr hn_q hcp))).trans hcp
        have hG9 : F3 cl = some (ah_ai D 200 plf) := (hbc cl (ah_nin4 (ah_ne hcl hbk rfl) (ah_ne hcl hra rfl) (ah_fr hn_z hcl) (ah_fr hn_q hcl))).trans hcl
        have hG10 : F3 tx = some (.inr (4, [.ref ta, .int (nI tc)])) := (hbc tx (ah_nin4 (ah_ne htx hbk rfl) (ah_ne htx hra rfl) (ah_fr hn_z htx) (ah_fr hn_q htx))).trans htx
        have hG11 : F3 ta = some (ah_ac D 1600 tf) := (hbc ta (ah_nin4 (ah_ne hta hbk rfl) (ah_ne hta hra rfl) (ah_fr hn_z hta) (ah_fr hn_q hta))).trans hta
        have hG12 : F3 dw = some (.inr (5, [.long (lN (ah_enc dr)), .int (nI dr.length)])) := (hbc dw (ah_nin4 (ah_ne hdw hbk rfl) (ah_ne hdw hra rfl) (ah_fr hn_z hdw) (ah_fr hn_q hdw))).trans hdw
        have hz_z : F z = none := hn_z
        have hz_q : F q = none := hn_q
        have hC13 : ah_ch F F3 [b, ra, z, q] := hbc
        refine lv_istore_n (lv' := [(1, .int (nI n)), (0, .ref x)]) hx hb dX6_enter_75 rfl hl (by decide) rfl (fun ls hl => ?_)
        refine lv_aload_n hx hb dX6_enter_76 rfl (lv_at hl 1 rfl) ?_
        refine nw_Aho_37 E hP hS (Nat.le_of_ble_eq_true rfl) (Nat.le_of_ble_eq_true rfl) dX6_enter_77 (fun z9 H hn_z9 hP hS => ?_)
        obtain ⟨F14, eF14⟩ : ∃ Fz : ah_F, Fz = ah_up F3 z9 (.inr (5, [.long (lN 0), .int (nI 0)])) := ⟨_, rfl⟩
        have hP : ah_K A D F14 H := by rw [eF14]; exact hP
        have hF15 : F14 z9 = some (.inr (5, [.long (lN 0), .int (nI 0)])) := by rw [eF14]; exact ah_up_s _ _ _
        have hF16 : F14 x = some (.inr (6, [.ref b, .ref st, .ref ch, .ref tx, .ref dw, .int td])) := by rw [eF14]; exact (ah_up_n _ _ (ah_fr hn_z9 hG4)).trans hG4
        have hF17 : F14 st = some (.inr (3, [.ref la, .int (nI S.length)])) := by rw [eF14]; exact (ah_up_n _ _ (ah_fr hn_z9 hG5)).trans hG5
        have hF18 : F14 la = some (ah_al D 201 lf) := by rw [eF14]; exact (ah_up_n _ _ (ah_fr hn_z9 hG6)).trans hG6
        have hF19 : F14 ch = some (.inr (1, [.ref cp, .ref cl, .int (nI cc)])) := by rw [eF14]; exact (ah_up_n _ _ (ah_fr hn_z9 hG7)).trans hG7
        have hF20 : F14 cp = some (ah_aq D 200 pf) := by rw [eF14]; exact (ah_up_n _ _ (ah_fr hn_z9 hG8)).trans hG8
        have hF21 : F14 cl = some (ah_ai D 200 plf) := by rw [eF14]; exact (ah_up_n _ _ (ah_fr hn_z9 hG9)).trans hG9
        have hF22 : F14 tx = some (.inr (4, [.ref ta, .int (nI tc)])) := by rw [eF14]; exact (ah_up_n _ _ (ah_fr hn_z9 hG10)).trans hG10
        have hF23 : F14 ta = some (ah_ac D 1600 tf) := by rw [eF14]; exact (ah_up_n _ _ (ah_fr hn_z9 hG11)).trans hG11
        have ne_dw_z9 : dw ≠ z9 := ah_fr hn_z9 hG12
        have hF24 : F14 dw = some (.inr (5, [.long (lN (ah_enc dr)), .int (nI dr.length)])) := by rw [eF14]; exact (ah_up_n _ _ (ah_fr hn_z9 hG12)).trans hG12
        have hF25 : F14 b = some (.inr (0, [.ref ra, .int (nI (n + 1)), .int (nI (pr + 1))])) := by rw [eF14]; exact (ah_up_n _ _ (ah_fr hn_z9 hbb)).trans hbb
        have hF26 : F14 ra = some (ah_aq D 40 (va_up rf n (some q))) := by rw [eF14]; exact (ah_up_n _ _ (ah_fr hn_z9 hbra)).trans hbra
        have hF27 : F14 q = some (.inr (2, [.int (nI n), .ref dw, .ref z])) := by rw [eF14]; exact (ah_up_n _ _ (ah_fr hn_z9 hbq)).trans hbq
        have ne_z_z9 : z ≠ z9 := ah_fr hn_z9 hbz
        have hF28 : F14 z = some (.inr (5, [.long (lN (ah_enc [])), .int (nI 0)])) := by rw [eF14]; exact (ah_up_n _ _ (ah_fr hn_z9 hbz)).trans hbz
        have hz_z9 : F z9 = none := (hC13 z9 (ah_nin4 (Ne.symm (ah_fr hn_z9 hbb)) (Ne.symm (ah_fr hn_z9 hbra)) (Ne.symm (ah_fr hn_z9 hbz)) (Ne.symm (ah_fr hn_z9 hbq)))).symm.trans hn_z9
        have hC29 : ah_ch F F14 [z9, b, ra, z, q] := by rw [eF14]; exact ah_ch_u (ah_ch_w hC13) (by simp)
        refine lv_dup hx hb dX6_enter_80 rfl ?_
        refine lv_lconst (v := (lN 0)) hx hb dX6_enter_81 rfl ?_
        refine lv_iconst (v := (nI 0)) hx hb dX6_enter_82 (by decide) ?_
        refine ah_callv (ah_runI E hP hS (As := [.long (lN 0), .int (nI 0)]) (rest := [.ref z9, .ref x]) (b := z9) (c_Word_init l A D _ hF15) lk_Aho_39 li_Aho_39 ⟨rfl, rfl, (Nat.le_of_ble_eq_true rfl), (Nat.le_of_ble_eq_true rfl)⟩ rfl hl.1 rfl (Nat.le_of_ble_eq_true rfl) dX6_enter_83 ⟨(Nat.le_of_ble_eq_true rfl), (Nat.le_of_ble_eq_true rfl)⟩) hS (fun F30 H locs hw0 hP hS => ?_)
        have hG31 : F30 x = some (.inr (6, [.ref b, .ref st, .ref ch, .ref tx, .ref dw, .int td])) := by rw [hw0]; exact ah_keep hF15 hF16 rfl
        have hG32 : F30 st = some (.inr (3, [.ref la, .int (nI S.length)])) := by rw [hw0]; exact ah_keep hF15 hF17 rfl
        have hG33 : F30 la = some (ah_al D 201 lf) := by rw [hw0]; exact ah_keep hF15 hF18 rfl
        have hG34 : F30 ch = some (.inr (1, [.ref cp, .ref cl, .int (nI cc)])) := by rw [hw0]; exact ah_keep hF15 hF19 rfl
        have hG35 : F30 cp = some (ah_aq D 200 pf) := by rw [hw0]; exact ah_keep hF15 hF20 rfl
        have hG36 : F30 cl = some (ah_ai D 200 plf) := by rw [hw0]; exact ah_keep hF15 hF21 rfl
        have hG37 : F30 tx = some (.inr (4, [.ref ta, .int (nI tc)])) := by rw [hw0]; exact ah_keep hF15 hF22 rfl
        have hG38 : F30 ta = some (ah_ac D 1600 tf) := by rw [hw0]; exact ah_keep hF15 hF23 rfl
        have hG39 : F30 dw = some (.inr (5, [.long (lN (ah_enc dr)), .int (nI dr.length)])) := by rw [hw0]; exact (ah_up_n _ _ ne_dw_z9).trans hF24
        have hG40 : F30 b = some (.inr (0, [.ref ra, .int (nI (n + 1)), .int (nI (pr + 1))])) := by rw [hw0]; exact ah_keep hF15 hF25 rfl
        have hG41 : F30 ra = some (ah_aq D 40 (va_up rf n (some q))) := by rw [hw0]; exact ah_keep hF15 hF26 rfl
        have hG42 : F30 q = some (.inr (2, [.int (nI n), .ref dw, .ref z])) := by rw [hw0]; exact ah_keep hF15 hF27 rfl
        have hG43 : F30 z = some (.inr (5, [.long (lN (ah_enc [])), .int (nI 0)])) := by rw [hw0]; exact (ah_up_n _ _ ne_z_z9).trans hF28
        have hG44 : F30 z9 = some (.inr (5, [.long (lN 0), .int (nI 0)])) := by rw [hw0]; exact ah_up_s _ _ _
        have hC45 : ah_ch F F30 [z9, b, ra, z, q] := by rw [hw0]; exact ah_ch_u hC29 (by simp)
        refine pf_Aho_42 E hP hS hG31 (Nat.le_of_ble_eq_true rfl) dX6_enter_86 (fun H locs hP hS => ?_)
        obtain ⟨F46, eF46⟩ : ∃ Fz : ah_F, Fz = ah_up F30 x (.inr (6, [.ref b, .ref st, .ref ch, .ref tx, .ref z9, .int td])) := ⟨_, rfl⟩
        have hP : ah_K A D F46 H := by rw [eF46]; exact hP
        have hF47 : F46 x = some (.inr (6, [.ref b, .ref st, .ref ch, .ref tx, .ref z9, .int td])) := by rw [eF46]; exact ah_up_s _ _ _
        have hF48 : F46 st = some (.inr (3, [.ref la, .int (nI S.length)])) := by rw [eF46]; exact ah_keep hG31 hG32 rfl
        have hF49 : F46 la = some (ah_al D 201 lf) := by rw [eF46]; exact ah_keep hG31 hG33 rfl
        have hF50 : F46 ch = some (.inr (1, [.ref cp, .ref cl, .int (nI cc)])) := by rw [eF46]; exact ah_keep hG31 hG34 rfl
        have hF51 : F46 cp = some (ah_aq D 200 pf) := by rw [eF46]; exact ah_keep hG31 hG35 rfl
        have hF52 : F46 cl = some (ah_ai D 200 plf) := by rw [eF46]; exact ah_keep hG31 hG36 rfl
        have hF53 : F46 tx = some (.inr (4, [.ref ta, .int (nI tc)])) := by rw [eF46]; exact ah_keep hG31 hG37 rfl
        have hF54 : F46 ta = some (ah_ac D 1600 tf) := by rw [eF46]; exact ah_keep hG31 hG38 rfl
        have hF55 : F46 dw = some (.inr (5, [.long (lN (ah_enc dr)), .int (nI dr.length)])) := by rw [eF46]; exact ah_keep hG31 hG39 rfl
        have hF56 : F46 b = some (.inr (0, [.ref ra, .int (nI (n + 1)), .int (nI (pr + 1))])) := by rw [eF46]; exact ah_keep hG31 hG40 rfl
        have hF57 : F46 ra = some (ah_aq D 40 (va_up rf n (some q))) := by rw [eF46]; exact ah_keep hG31 hG41 rfl
        have hF58 : F46 q = some (.inr (2, [.int (nI n), .ref dw, .ref z])) := by rw [eF46]; exact ah_keep hG31 hG42 rfl
        have hF59 : F46 z = some (.inr (5, [.long (lN (ah_enc [])), .int (nI 0)])) := by rw [eF46]; exact ah_keep hG31 hG43 rfl
        have hF60 : F46 z9 = some (.inr (5, [.long (lN 0), .int (nI 0)])) := by rw [eF46]; exact ah_keep hG31 hG44 rfl
        have hC61 : ah_ch F F46 [x, z9, b, ra, z, q] := by rw [eF46]; exact ah_ch_u (ah_ch_w hC45) (by simp)
        refine lv_iload_n hx hb dX6_enter_89 rfl (lv_at hl 0 rfl) ?_
        have hkw9 := (ah_kw_c hC61 (ah_all6 (ah_nr_t hxx rfl rfl) (ah_nr_n hz_z9) (ah_nr_t hbk rfl rfl) (ah_nr_t hra rfl rfl) (ah_nr_n hz_z) (ah_nr_n hz_q)))
        have hdne : dr ≠ [] := fun e => by rw [e] at hc7; exact absurd hc7 (by decide)
        rw [hQ]
        exact vx_ret (ah_iret E hr hP hS ⟨by rw [ah_can, hc31, ← hpr, hc51]; simp [hdne], rfl, ⟨b, ra, st, la, ch, cp, cl, tx, ta, z9, _, _, _, _, _, _, _, _, hF47, hF56, hF57, (ah_rows_ins hrows hkw9 hF58 hF55 hF59 hdok hdne), hF48, hF49, hstr, hF50, hF51, hF52, hF53, hF54, hF60, ⟨Nat.zero_le _, fun z hz => by simp at hz⟩, hfull.2, (fun i hi => by rw [ah_ins, if_neg (by omega)]; exact hPn i (by omega)), (by rw [ah_cn_ins hfull.2 (hPn n (Nat.le_refl _)), hpr]), (by omega)⟩, (ah_out_c hC61 (ah_all6 (ah_no_t hxx rfl) (ah_no_n hz_z9) (ah_no_t hbk rfl) (ah_no_t hra rfl) (ah_no_n hz_z) (ah_no_n hz_q)))⟩ (Nat.le_of_ble_eq_true rfl) (Nat.le_of_ble_eq_true rfl) dX6_enter_90)
      · skip
        rw [hQ]
        exact ah_throw (text := "there are 20 patterns, or 40 were entered") (px := (fun E F1 => F = F1 ∧ E = "java/lang/IllegalStateException" ∧ ah_can P n dr = false)) hl1 E htab hP hS hl.1 tw_ise (by simp [ah_Strs]) dX6_enter_54 dX6_enter_57 dX6_enter_58 dX6_enter_60 dX6_enter_63 (Nat.le_of_ble_eq_true rfl) (Nat.le_of_ble_eq_true rfl) (Nat.le_of_ble_eq_true rfl) (Nat.le_of_ble_eq_true rfl) (Nat.le_of_ble_eq_true rfl) (Nat.le_of_ble_eq_true rfl) ⟨rfl, rfl, by rw [ah_can, ← hpr, hc51]; simp⟩
    · skip
      rw [hQ]
      exact ah_throw (text := "there is a pattern with the same letters") (px := (fun E F1 => F = F1 ∧ E = "java/lang/IllegalStateException" ∧ ah_can P n dr = false)) hl1 E htab hP hS hl.1 tw_ise (by simp [ah_Strs]) dX6_enter_34 dX6_enter_37 dX6_enter_38 dX6_enter_40 dX6_enter_43 (Nat.le_of_ble_eq_true rfl) (Nat.le_of_ble_eq_true rfl) (Nat.le_of_ble_eq_true rfl) (Nat.le_of_ble_eq_true rfl) (Nat.le_of_ble_eq_true rfl) (Nat.le_of_ble_eq_true rfl) ⟨rfl, rfl, by rw [ah_can, hc31]; simp⟩
  · skip
    rw [hQ]
    exact ah_throw (text := "the draft is empty") (px := (fun E F1 => F = F1 ∧ E = "java/lang/IllegalStateException" ∧ ah_can P n dr = false)) hl1 E htab hP hS hl.1 tw_ise (by simp [ah_Strs]) dX6_enter_10 dX6_enter_13 dX6_enter_14 dX6_enter_16 dX6_enter_19 (Nat.le_of_ble_eq_true rfl) (Nat.le_of_ble_eq_true rfl) (Nat.le_of_ble_eq_true rfl) (Nat.le_of_ble_eq_true rfl) (Nat.le_of_ble_eq_true rfl) (Nat.le_of_ble_eq_true rfl) ⟨rfl, rfl, by rw [ah_can]; simp [List.length_eq_zero_iff.mp hc7]⟩

set_option maxHeartbeats 4000000 in
set_option maxRecDepth 100000 in
/-- setReplacement -/
theorem c_setReplacement (l : Launch) (hl1 : l.stackTraces = false) (A : Nat → Prop) (D : ah_G) (F : ah_F) {x n : Nat} {P : ah_Pt} {dr S : List Nat} {td : Int32} (hC : ah_C D F x P n dr S td) {v0 : Int32} : vx_Met l yX6_setReplacement (Cond.code yX6_setReplacement cX6_setReplacement 4 (some .int) :: ah_T) { frames := 7, cells := 2, slots := 8, locals := 104 } (va_Pc [.ref x, .int v0] (ah_B A D F)) (ah_Qi A D (fun (r : Int32) F1 => ∃ (i : Nat) (w r0 : List Nat), ah_pi P v0 = some i ∧ P i = some (w, r0) ∧ nI r0.length = r ∧ ah_C D F1 x (ah_rep P i w dr) n [] S td ∧ ah_out D F F1)) (ah_X A D (fun E F1 => F = F1 ∧ E = "java/util/NoSuchElementException" ∧ ah_pi P v0 = none)) 2 8 A := by
  refine ah_xmet (own := "Ahoarch") (by decide) rfl (Nat.le_of_ble_eq_true rfl) ?_
  intro p e s m below meth c ls E hr htab hl hP hS Q hQ
  have hx := E.1
  have hb := E.2.1
  have hl : lv_has ls 4 [(0, .ref x), (1, .int v0)] := hl
  obtain ⟨b, ra, st, la, ch, cp, cl, tx, ta, dw, rf, lf, pf, plf, tf, cc, tc, pr, hxx, hbk, hra, hrows, hst, hla, hstr, hch, hcp, hcl, htx, hta, hdw, hdok, hn40, hPn, hpr, hpr20⟩ := id hC
  obtain ⟨hS1, hS2, hS3⟩ := id hstr
  refine lv_aload_n hx hb dX6_setReplacement_0 rfl (lv_at hl 0 rfl) ?_
  refine lv_iload_n hx hb dX6_setReplacement_1 rfl (lv_at hl 1 rfl) ?_
  refine ah_xcallq (ah_xrunV E hP hS (As := [.int v0]) (rest := []) (b := x) (c_need l hl1 A D _ hbk hra hrows hxx (v0 := v0)) lk_Aho_86 li_Aho_86 hxx rfl ⟨rfl, rfl, (Nat.le_of_ble_eq_true rfl), (Nat.le_of_ble_eq_true rfl)⟩ rfl hl.1 rfl (Nat.le_of_ble_eq_true rfl) dX6_setReplacement_2 ⟨(Nat.le_of_ble_eq_true rfl), (Nat.le_of_ble_eq_true rfl)⟩) hS (fun E0 q9 Fx H locs hT => ?_) (fun r F1 H locs hq hP hS => ?_)
  · skip
    rw [hQ]
    exact ah_xout E htab hT (fun h => h) (Nat.le_of_ble_eq_true rfl) (Nat.le_of_ble_eq_true rfl)
  · skip
    obtain ⟨rfl, i, q, w, r0, lw, lr, rfl, hpi, hi40, hvi, hri, hPi, hqo, hlw, hlr, hok, hokr, hne⟩ := hq
    have hwl := hok.1
    refine lv_astore_n (lv' := [(2, .ref q), (0, .ref x), (1, .int v0)]) hx hb dX6_setReplacement_5 rfl hl (by decide) rfl (fun ls hl => ?_)
    refine lv_aload_n hx hb dX6_setReplacement_6 rfl (lv_at hl 0 rfl) ?_
    refine gf_Aho_90 E hP hqo rfl dX6_setReplacement_7 ?_
    refine gf_Aho_54 E hP hlr rfl dX6_setReplacement_10 ?_
    refine lv_istore_n (lv' := [(3, .int (nI r0.length)), (2, .ref q), (0, .ref x), (1, .int v0)]) hx hb dX6_setReplacement_13 rfl hl (by decide) rfl (fun ls hl => ?_)
    refine lv_aload_n hx hb dX6_setReplacement_14 rfl (lv_at hl 1 rfl) ?_
    refine lv_aload_n hx hb dX6_setReplacement_15 rfl (lv_at hl 2 rfl) ?_
    refine gf_Aho_42 E hP hxx rfl dX6_setReplacement_16 ?_
    refine pf_Aho_90 E hP hS hqo (Nat.le_of_ble_eq_true rfl) dX6_setReplacement_19 (fun H locs hP hS => ?_)
    obtain ⟨F2, eF2⟩ : ∃ Fz : ah_F, Fz = ah_up F q (.inr (2, [.int (nI i), .ref lw, .ref dw])) := ⟨_, rfl⟩
    have hP : ah_K A D F2 H := by rw [eF2]; exact hP
    have hF3 : F2 q = some (.inr (2, [.int (nI i), .ref lw, .ref dw])) := by rw [eF2]; exact ah_up_s _ _ _
    have hF4 : F2 x = some (.inr (6, [.ref b, .ref st, .ref ch, .ref tx, .ref dw, .int td])) := by rw [eF2]; exact ah_keep hqo hxx rfl
    have hF5 : F2 b = some (.inr (0, [.ref ra, .int (nI n), .int (nI pr)])) := by rw [eF2]; exact ah_keep hqo hbk rfl
    have hF6 : F2 ra = some (ah_aq D 40 rf) := by rw [eF2]; exact ah_keep hqo hra rfl
    have hF7 : F2 st = some (.inr (3, [.ref la, .int (nI S.length)])) := by rw [eF2]; exact ah_keep hqo hst rfl
    have hF8 : F2 la = some (ah_al D 201 lf) := by rw [eF2]; exact ah_keep hqo hla rfl
    have hF9 : F2 ch = some (.inr (1, [.ref cp, .ref cl, .int (nI cc)])) := by rw [eF2]; exact ah_keep hqo hch rfl
    have hF10 : F2 cp = some (ah_aq D 200 pf) := by rw [eF2]; exact ah_keep hqo hcp rfl
    have hF11 : F2 cl = some (ah_ai D 200 plf) := by rw [eF2]; exact ah_keep hqo hcl rfl
    have hF12 : F2 tx = some (.inr (4, [.ref ta, .int (nI tc)])) := by rw [eF2]; exact ah_keep hqo htx rfl
    have hF13 : F2 ta = some (ah_ac D 1600 tf) := by rw [eF2]; exact ah_keep hqo hta rfl
    have hF14 : F2 dw = some (.inr (5, [.long (lN (ah_enc dr)), .int (nI dr.length)])) := by rw [eF2]; exact ah_keep hqo hdw rfl
    have hF15 : F2 lw = some (.inr (5, [.long (lN (ah_enc w)), .int (nI w.length)])) := by rw [eF2]; exact ah_keep hqo hlw rfl
    have hF16 : F2 lr = some (.inr (5, [.long (lN (ah_enc r0)), .int (nI r0.length)])) := by rw [eF2]; exact ah_keep hqo hlr rfl
    have hC17 : ah_ch F F2 [q] := by rw [eF2]; exact ah_ch_u (ah_ch_r _ _) (by simp)
    refine lv_aload_n hx hb dX6_setReplacement_22 rfl (lv_at hl 2 rfl) ?_
    refine nw_Aho_37 E hP hS (Nat.le_of_ble_eq_true rfl) (Nat.le_of_ble_eq_true rfl) dX6_setReplacement_23 (fun z9 H hn_z9 hP hS => ?_)
    obtain ⟨F18, eF18⟩ : ∃ Fz : ah_F, Fz = ah_up F2 z9 (.inr (5, [.long (lN 0), .int (nI 0)])) := ⟨_, rfl⟩
    have hP : ah_K A D F18 H := by rw [eF18]; exact hP
    have hF19 : F18 z9 = some (.inr (5, [.long (lN 0), .int (nI 0)])) := by rw [eF18]; exact ah_up_s _ _ _
    have hF20 : F18 x = some (.inr (6, [.ref b, .ref st, .ref ch, .ref tx, .ref dw, .int td])) := by rw [eF18]; exact (ah_up_n _ _ (ah_fr hn_z9 hF4)).trans hF4
    have hF21 : F18 b = some (.inr (0, [.ref ra, .int (nI n), .int (nI pr)])) := by rw [eF18]; exact (ah_up_n _ _ (ah_fr hn_z9 hF5)).trans hF5
    have hF22 : F18 ra = some (ah_aq D 40 rf) := by rw [eF18]; exact (ah_up_n _ _ (ah_fr hn_z9 hF6)).trans hF6
    have hF23 : F18 st = some (.inr (3, [.ref la, .int (nI S.length)])) := by rw [eF18]; exact (ah_up_n _ _ (ah_fr hn_z9 hF7)).trans hF7
    have hF24 : F18 la = some (ah_al D 201 lf) := by rw [eF18]; exact (ah_up_n _ _ (ah_fr hn_z9 hF8)).trans hF8
    have hF25 : F18 ch = some (.inr (1, [.ref cp, .ref cl, .int (nI cc)])) := by rw [eF18]; exact (ah_up_n _ _ (ah_fr hn_z9 hF9)).trans hF9
    have hF26 : F18 cp = some (ah_aq D 200 pf) := by rw [eF18]; exact (ah_up_n _ _ (ah_fr hn_z9 hF10)).trans hF10
    have hF27 : F18 cl = some (ah_ai D 200 plf) := by rw [eF18]; exact (ah_up_n _ _ (ah_fr hn_z9 hF11)).trans hF11
    have hF28 : F18 tx = some (.inr (4, [.ref ta, .int (nI tc)])) := by rw [eF18]; exact (ah_up_n _ _ (ah_fr hn_z9 hF12)).trans hF12
    have hF29 : F18 ta = some (ah_ac D 1600 tf) := by rw [eF18]; exact (ah_up_n _ _ (ah_fr hn_z9 hF13)).trans hF13
    have ne_dw_z9 : dw ≠ z9 := ah_fr hn_z9 hF14
    have hF30 : F18 dw = some (.inr (5, [.long (lN (ah_enc dr)), .int (nI dr.length)])) := by rw [eF18]; exact (ah_up_n _ _ (ah_fr hn_z9 hF14)).trans hF14
    have ne_lw_z9 : lw ≠ z9 := ah_fr hn_z9 hF15
    have hF31 : F18 lw = some (.inr (5, [.long (lN (ah_enc w)), .int (nI w.length)])) := by rw [eF18]; exact (ah_up_n _ _ (ah_fr hn_z9 hF15)).trans hF15
    have ne_lr_z9 : lr ≠ z9 := ah_fr hn_z9 hF16
    have hF32 : F18 lr = some (.inr (5, [.long (lN (ah_enc r0)), .int (nI r0.length)])) := by rw [eF18]; exact (ah_up_n _ _ (ah_fr hn_z9 hF16)).trans hF16
    have hF33 : F18 q = some (.inr (2, [.int (nI i), .ref lw, .ref dw])) := by rw [eF18]; exact (ah_up_n _ _ (ah_fr hn_z9 hF3)).trans hF3
    have hz_z9 : F z9 = none := (hC17 z9 (ah_nin1 (Ne.symm (ah_fr hn_z9 hF3)))).symm.trans hn_z9
    have hC34 : ah_ch F F18 [z9, q] := by rw [eF18]; exact ah_ch_u (ah_ch_w hC17) (by simp)
    refine lv_dup hx hb dX6_setReplacement_26 rfl ?_
    refine lv_lconst (v := (lN 0)) hx hb dX6_setReplacement_27 rfl ?_
    refine lv_iconst (v := (nI 0)) hx hb dX6_setReplacement_28 (by decide) ?_
    refine ah_callv (ah_runI E hP hS (As := [.long (lN 0), .int (nI 0)]) (rest := [.ref z9, .ref x]) (b := z9) (c_Word_init l A D _ hF19) lk_Aho_39 li_Aho_39 ⟨rfl, rfl, (Nat.le_of_ble_eq_true rfl), (Nat.le_of_ble_eq_true rfl)⟩ rfl hl.1 rfl (Nat.le_of_ble_eq_true rfl) dX6_setReplacement_29 ⟨(Nat.le_of_ble_eq_true rfl), (Nat.le_of_ble_eq_true rfl)⟩) hS (fun F35 H locs hw0 hP hS => ?_)
    have hG36 : F35 x = some (.inr (6, [.ref b, .ref st, .ref ch, .ref tx, .ref dw, .int td])) := by rw [hw0]; exact ah_keep hF19 hF20 rfl
    have hG37 : F35 b = some (.inr (0, [.ref ra, .int (nI n), .int (nI pr)])) := by rw [hw0]; exact ah_keep hF19 hF21 rfl
    have hG38 : F35 ra = some (ah_aq D 40 rf) := by rw [hw0]; exact ah_keep hF19 hF22 rfl
    have hG39 : F35 st = some (.inr (3, [.ref la, .int (nI S.length)])) := by rw [hw0]; exact ah_keep hF19 hF23 rfl
    have hG40 : F35 la = some (ah_al D 201 lf) := by rw [hw0]; exact ah_keep hF19 hF24 rfl
    have hG41 : F35 ch = some (.inr (1, [.ref cp, .ref cl, .int (nI cc)])) := by rw [hw0]; exact ah_keep hF19 hF25 rfl
    have hG42 : F35 cp = some (ah_aq D 200 pf) := by rw [hw0]; exact ah_keep hF19 hF26 rfl
    have hG43 : F35 cl = some (ah_ai D 200 plf) := by rw [hw0]; exact ah_keep hF19 hF27 rfl
    have hG44 : F35 tx = some (.inr (4, [.ref ta, .int (nI tc)])) := by rw [hw0]; exact ah_keep hF19 hF28 rfl
    have hG45 : F35 ta = some (ah_ac D 1600 tf) := by rw [hw0]; exact ah_keep hF19 hF29 rfl
    have hG46 : F35 dw = some (.inr (5, [.long (lN (ah_enc dr)), .int (nI dr.length)])) := by rw [hw0]; exact (ah_up_n _ _ ne_dw_z9).trans hF30
    have hG47 : F35 lw = some (.inr (5, [.long (lN (ah_enc w)), .int (nI w.length)])) := by rw [hw0]; exact (ah_up_n _ _ ne_lw_z9).trans hF31
    have hG48 : F35 lr = some (.inr (5, [.long (lN (ah_enc r0)), .int (nI r0.length)])) := by rw [hw0]; exact (ah_up_n _ _ ne_lr_z9).trans hF32
    have hG49 : F35 q = some (.inr (2, [.int (nI i), .ref lw, .ref dw])) := by rw [hw0]; exact ah_keep hF19 hF33 rfl
    have hG50 : F35 z9 = some (.inr (5, [.long (lN 0), .int (nI 0)])) := by rw [hw0]; exact ah_up_s _ _ _
    have hC51 : ah_ch F F35 [z9, q] := by rw [hw0]; exact ah_ch_u hC34 (by simp)
    refine pf_Aho_42 E hP hS hG36 (Nat.le_of_ble_eq_true rfl) dX6_setReplacement_32 (fun H locs hP hS => ?_)
    obtain ⟨F52, eF52⟩ : ∃ Fz : ah_F, Fz = ah_up F35 x (.inr (6, [.ref b, .ref st, .ref ch, .ref tx, .ref z9, .int td])) := ⟨_, rfl⟩
    have hP : ah_K A D F52 H := by rw [eF52]; exact hP
    have hF53 : F52 x = some (.inr (6, [.ref b, .ref st, .ref ch, .ref tx, .ref z9, .int td])) := by rw [eF52]; exact ah_up_s _ _ _
    have hF54 : F52 b = some (.inr (0, [.ref ra, .int (nI n), .int (nI pr)])) := by rw [eF52]; exact ah_keep hG36 hG37 rfl
    have hF55 : F52 ra = some (ah_aq D 40 rf) := by rw [eF52]; exact ah_keep hG36 hG38 rfl
    have hF56 : F52 st = some (.inr (3, [.ref la, .int (nI S.length)])) := by rw [eF52]; exact ah_keep hG36 hG39 rfl
    have hF57 : F52 la = some (ah_al D 201 lf) := by rw [eF52]; exact ah_keep hG36 hG40 rfl
    have hF58 : F52 ch = some (.inr (1, [.ref cp, .ref cl, .int (nI cc)])) := by rw [eF52]; exact ah_keep hG36 hG41 rfl
    have hF59 : F52 cp = some (ah_aq D 200 pf) := by rw [eF52]; exact ah_keep hG36 hG42 rfl
    have hF60 : F52 cl = some (ah_ai D 200 plf) := by rw [eF52]; exact ah_keep hG36 hG43 rfl
    have hF61 : F52 tx = some (.inr (4, [.ref ta, .int (nI tc)])) := by rw [eF52]; exact ah_keep hG36 hG44 rfl
    have hF62 : F52 ta = some (ah_ac D 1600 tf) := by rw [eF52]; exact ah_keep hG36 hG45 rfl
    have hF63 : F52 dw = some (.inr (5, [.long (lN (ah_enc dr)), .int (nI dr.length)])) := by rw [eF52]; exact ah_keep hG36 hG46 rfl
    have hF64 : F52 lw = some (.inr (5, [.long (lN (ah_enc w)), .int (nI w.length)])) := by rw [eF52]; exact ah_keep hG36 hG47 rfl
    have hF65 : F52 lr = some (.inr (5, [.long (lN (ah_enc r0)), .int (nI r0.length)])) := by rw [eF52]; exact ah_keep hG36 hG48 rfl
    have hF66 : F52 q = some (.inr (2, [.int (nI i), .ref lw, .ref dw])) := by rw [eF52]; exact ah_keep hG36 hG49 rfl
    have hF67 : F52 z9 = some (.inr (5, [.long (lN 0), .int (nI 0)])) := by rw [eF52]; exact ah_keep hG36 hG50 rfl
    have hC68 : ah_ch F F52 [x, z9, q] := by rw [eF52]; exact ah_ch_u (ah_ch_w hC51) (by simp)
    refine lv_iload_n hx hb dX6_setReplacement_35 rfl (lv_at hl 0 rfl) ?_
    rw [hQ]
    exact vx_ret (ah_iret E hr hP hS ⟨i, w, r0, hpi, hPi, rfl, ⟨b, ra, st, la, ch, cp, cl, tx, ta, z9, _, _, _, _, _, _, _, _, hF53, hF54, hF55, (ah_rows_rep hrows hi40 hri hPi (L := [x, z9]) (ah_ch_m hC68 (by intro a ha; simp only [List.mem_cons, List.not_mem_nil, or_false] at ha ⊢; omega)) (ah_all2 (ah_nr_t hxx rfl rfl) (ah_nr_n hz_z9)) hqo hF66 hF63 hdok), hF56, hF57, hstr, hF58, hF59, hF60, hF61, hF62, hF67, ⟨Nat.zero_le _, fun z hz => by simp at hz⟩, hn40, (fun j hj => by rw [ah_rep, if_neg (fun e => by have h9 := hPn j hj; rw [e, hPi] at h9; cases h9)]; exact hPn j hj), (by rw [ah_cn_rep (by rw [hPi]; rfl), hpr]), hpr20⟩, (ah_out_c hC68 (ah_all3 (ah_no_t hxx rfl) (ah_no_n hz_z9) (ah_no_t hqo rfl)))⟩ (Nat.le_of_ble_eq_true rfl) (Nat.le_of_ble_eq_true rfl) dX6_setReplacement_36)

set_option maxHeartbeats 4000000 in
set_option maxRecDepth 100000 in
/-- takeOut -/
theorem c_takeOut (l : Launch) (hl1 : l.stackTraces = false) (A : Nat → Prop) (D : ah_G) (F : ah_F) {x n : Nat} {P : ah_Pt} {dr S : List Nat} {td : Int32} (hC : ah_C D F x P n dr S td) {v0 : Int32} : vx_Met l yX6_takeOut (Cond.code yX6_takeOut cX6_takeOut 2 (some .int) :: ah_T) { frames := 7, cells := 1, slots := 6, locals := 104 } (va_Pc [.ref x, .int v0] (ah_B A D F)) (ah_Qi A D (fun (r : Int32) F1 => ∃ i : Nat, ah_pi P v0 = some i ∧ nI (pu_cn (fun j => (ah_del P i j).isSome) 40) = r ∧ ah_C D F1 x (ah_del P i) n dr S td ∧ ah_out D F F1)) (ah_X A D (fun E F1 => F = F1 ∧ E = "java/util/NoSuchElementException" ∧ ah_pi P v0 = none)) 1 6 A := by
  refine ah_xmet (own := "Ahoarch") (by decide) rfl (Nat.le_of_ble_eq_true rfl) ?_
  intro p e s m below meth c ls E hr htab hl hP hS Q hQ
  have hx := E.1
  have hb := E.2.1
  have hl : lv_has ls 2 [(0, .ref x), (1, .int v0)] := hl
  obtain ⟨b, ra, st, la, ch, cp, cl, tx, ta, dw, rf, lf, pf, plf, tf, cc, tc, pr, hxx, hbk, hra, hrows, hst, hla, hstr, hch, hcp, hcl, htx, hta, hdw, hdok, hn40, hPn, hpr, hpr20⟩ := id hC
  obtain ⟨hS1, hS2, hS3⟩ := id hstr
  refine lv_aload_n hx hb dX6_takeOut_0 rfl (lv_at hl 0 rfl) ?_
  refine gf_Aho_10 E hP hxx rfl dX6_takeOut_1 ?_
  refine lv_aload_n hx hb dX6_takeOut_4 rfl (lv_at hl 0 rfl) ?_
  refine lv_iload_n hx hb dX6_takeOut_5 rfl (lv_at hl 1 rfl) ?_
  refine ah_xcallq (ah_xrunV E hP hS (As := [.int v0]) (rest := [.ref b]) (b := x) (c_need l hl1 A D _ hbk hra hrows hxx (v0 := v0)) lk_Aho_86 li_Aho_86 hxx rfl ⟨rfl, rfl, (Nat.le_of_ble_eq_true rfl), (Nat.le_of_ble_eq_true rfl)⟩ rfl hl.1 rfl (Nat.le_of_ble_eq_true rfl) dX6_takeOut_6 ⟨(Nat.le_of_ble_eq_true rfl), (Nat.le_of_ble_eq_true rfl)⟩) hS (fun E0 q9 Fx H locs hT => ?_) (fun r F1 H locs hq hP hS => ?_)
  · skip
    rw [hQ]
    exact ah_xout E htab hT (fun h => h) (Nat.le_of_ble_eq_true rfl) (Nat.le_of_ble_eq_true rfl)
  · skip
    obtain ⟨rfl, i, q, w, r0, lw, lr, rfl, hpi, hi40, hvi, hri, hPi, hqo, hlw, hlr, hok, hokr, hne⟩ := hq
    have hwl := hok.1
    have hdel := ah_cn_del hi40 (show (P i).isSome = true by rw [hPi]; rfl)
    have hprp : 0 < pr := by omega
    refine ah_callv (ah_runV E hP hS (As := [.ref q]) (rest := []) (b := b) (c_Book_remove l A D _ hbk hra hrows hqo hi40 hri hprp (by omega)) lk_Aho_95 li_Aho_95 hbk rfl ⟨rfl, rfl, (Nat.le_of_ble_eq_true rfl), (Nat.le_of_ble_eq_true rfl)⟩ rfl hl.1 rfl (Nat.le_of_ble_eq_true rfl) dX6_takeOut_9 ⟨(Nat.le_of_ble_eq_true rfl), (Nat.le_of_ble_eq_true rfl)⟩) hS (fun F2 H locs hbr hP hS => ?_)
    obtain ⟨hb1, hb2, hb3⟩ := hbr
    have hG3 : F2 x = some (.inr (6, [.ref b, .ref st, .ref ch, .ref tx, .ref dw, .int td])) := (hb3 x (ah_nin2 (ah_ne hxx hbk rfl) (ah_ne hxx hra rfl))).trans hxx
    have hG4 : F2 st = some (.inr (3, [.ref la, .int (nI S.length)])) := (hb3 st (ah_nin2 (ah_ne hst hbk rfl) (ah_ne hst hra rfl))).trans hst
    have hG5 : F2 la = some (ah_al D 201 lf) := (hb3 la (ah_nin2 (ah_ne hla hbk rfl) (ah_ne hla hra rfl))).trans hla
    have hG6 : F2 ch = some (.inr (1, [.ref cp, .ref cl, .int (nI cc)])) := (hb3 ch (ah_nin2 (ah_ne hch hbk rfl) (ah_ne hch hra rfl))).trans hch
    have hG7 : F2 cp = some (ah_aq D 200 pf) := (hb3 cp (ah_nin2 (ah_ne hcp hbk rfl) (ah_ne hcp hra rfl))).trans hcp
    have hG8 : F2 cl = some (ah_ai D 200 plf) := (hb3 cl (ah_nin2 (ah_ne hcl hbk rfl) (ah_ne hcl hra rfl))).trans hcl
    have hG9 : F2 tx = some (.inr (4, [.ref ta, .int (nI tc)])) := (hb3 tx (ah_nin2 (ah_ne htx hbk rfl) (ah_ne htx hra rfl))).trans htx
    have hG10 : F2 ta = some (ah_ac D 1600 tf) := (hb3 ta (ah_nin2 (ah_ne hta hbk rfl) (ah_ne hta hra rfl))).trans hta
    have hG11 : F2 dw = some (.inr (5, [.long (lN (ah_enc dr)), .int (nI dr.length)])) := (hb3 dw (ah_nin2 (ah_ne hdw hbk rfl) (ah_ne hdw hra rfl))).trans hdw
    have hG12 : F2 q = some (.inr (2, [.int (nI i), .ref lw, .ref lr])) := (hb3 q (ah_nin2 (ah_ne hqo hbk rfl) (ah_ne hqo hra rfl))).trans hqo
    have hG13 : F2 lw = some (.inr (5, [.long (lN (ah_enc w)), .int (nI w.length)])) := (hb3 lw (ah_nin2 (ah_ne hlw hbk rfl) (ah_ne hlw hra rfl))).trans hlw
    have hG14 : F2 lr = some (.inr (5, [.long (lN (ah_enc r0)), .int (nI r0.length)])) := (hb3 lr (ah_nin2 (ah_ne hlr hbk rfl) (ah_ne hlr hra rfl))).trans hlr
    have hC15 : ah_ch F F2 [b, ra] := hb3
    refine lv_aload_n hx hb dX6_takeOut_12 rfl (lv_at hl 0 rfl) ?_
    refine gf_Aho_10 E hP hG3 rfl dX6_takeOut_13 ?_
    refine gf_Aho_99 E hP hb2 rfl dX6_takeOut_16 ?_
    rw [hQ]
    exact vx_ret (ah_iret E hr hP hS ⟨i, hpi, by rw [show pr - 1 = pu_cn (fun j => (ah_del P i j).isSome) 40 by omega], ⟨b, ra, st, la, ch, cp, cl, tx, ta, dw, _, _, _, _, _, _, _, _, hG3, hb2, hb1, (ah_rows_del hrows (ah_kw_c hC15 (ah_all2 (ah_nr_t hbk rfl rfl) (ah_nr_t hra rfl rfl)))), hG4, hG5, hstr, hG6, hG7, hG8, hG9, hG10, hG11, hdok, hn40, (fun j hj => by rw [ah_del]; split; rfl; exact hPn j hj), (by omega), (by omega)⟩, (ah_out_c hC15 (ah_all2 (ah_no_t hbk rfl) (ah_no_t hra rfl)))⟩ (Nat.le_of_ble_eq_true rfl) (Nat.le_of_ble_eq_true rfl) dX6_takeOut_19)
