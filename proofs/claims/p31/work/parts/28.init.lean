theorem ah_all10 {Q : Nat → Prop} {x1 x2 x3 x4 x5 x6 x7 x8 x9 x10 : Nat} (h1 : Q x1) (h2 : Q x2) (h3 : Q x3) (h4 : Q x4) (h5 : Q x5) (h6 : Q x6) (h7 : Q x7) (h8 : Q x8) (h9 : Q x9) (h10 : Q x10) : ∀ a ∈ [x1, x2, x3, x4, x5, x6, x7, x8, x9, x10], Q a := by intro a ha; simp at ha; rcases ha with rfl | rfl | rfl | rfl | rfl | rfl | rfl | rfl | rfl | rfl <;> assumption
theorem ah_nin10 {a x1 x2 x3 x4 x5 x6 x7 x8 x9 x10 : Nat} (h1 : a ≠ x1) (h2 : a ≠ x2) (h3 : a ≠ x3) (h4 : a ≠ x4) (h5 : a ≠ x5) (h6 : a ≠ x6) (h7 : a ≠ x7) (h8 : a ≠ x8) (h9 : a ≠ x9) (h10 : a ≠ x10) : a ∉ [x1, x2, x3, x4, x5, x6, x7, x8, x9, x10] := by simp [h1, h2, h3, h4, h5, h6, h7, h8, h9, h10]
theorem ah_all11 {Q : Nat → Prop} {x1 x2 x3 x4 x5 x6 x7 x8 x9 x10 x11 : Nat} (h1 : Q x1) (h2 : Q x2) (h3 : Q x3) (h4 : Q x4) (h5 : Q x5) (h6 : Q x6) (h7 : Q x7) (h8 : Q x8) (h9 : Q x9) (h10 : Q x10) (h11 : Q x11) : ∀ a ∈ [x1, x2, x3, x4, x5, x6, x7, x8, x9, x10, x11], Q a := by intro a ha; simp at ha; rcases ha with rfl | rfl | rfl | rfl | rfl | rfl | rfl | rfl | rfl | rfl | rfl <;> assumption
theorem ah_nin11 {a x1 x2 x3 x4 x5 x6 x7 x8 x9 x10 x11 : Nat} (h1 : a ≠ x1) (h2 : a ≠ x2) (h3 : a ≠ x3) (h4 : a ≠ x4) (h5 : a ≠ x5) (h6 : a ≠ x6) (h7 : a ≠ x7) (h8 : a ≠ x8) (h9 : a ≠ x9) (h10 : a ≠ x10) (h11 : a ≠ x11) : a ∉ [x1, x2, x3, x4, x5, x6, x7, x8, x9, x10, x11] := by simp [h1, h2, h3, h4, h5, h6, h7, h8, h9, h10, h11]
theorem ah_rows_0 (F : ah_F) : ah_rows F (fun _ => none) (fun _ => none) := fun _ _ => Or.inl ⟨rfl, rfl⟩
theorem ah_str_0 : ah_str (fun _ => 0) [] := ⟨Nat.zero_le _, fun x hx => by simp at hx, fun i hi => by simp only [List.take_nil]; rfl⟩
set_option maxHeartbeats 4000000 in
set_option maxRecDepth 100000 in
/-- <init> -/
theorem c_Stream_init (l : Launch) (A : Nat → Prop) (D : ah_G) (F : ah_F) {st : Nat} (hc0 : F st = some (.inr (3, [.null, .int (nI 0)]))) : Met l yX3_init (Cond.code yX3_init cX3_init 1 none :: ah_T) { frames := 1, cells := 1, slots := 201, locals := 20 } (va_Pc [.ref st] (ah_B A D F)) (ah_Qv A D (fun F1 => ∃ la : Nat, F la = none ∧ F1 st = some (.inr (3, [.ref la, .int (nI 0)])) ∧ F1 la = some (ah_al D 201 (fun _ => 0)) ∧ ah_ch F F1 [st, la])) 1 201 A := by
  refine ah_met (own := "Ahoarch$Stream") (by decide) rfl (Nat.le_of_ble_eq_true rfl) ?_
  intro p e s m below meth c ls E hr hini hl hP hS Q hQ
  have hx := E.1
  have hb := E.2.1
  have hl : lv_has ls 1 [(0, .ref st)] := hl
  refine lv_aload_n hx hb dX3_init_0 rfl (lv_at hl 0 rfl) ?_
  refine oi_Stream E hl.1 dX3_init_1 (Nat.le_of_ble_eq_true rfl) (Nat.le_of_ble_eq_true rfl) ?_
  refine lv_aload_n hx hb dX3_init_4 rfl (lv_at hl 0 rfl) ?_
  refine lv_sipush (v := (nI 201)) hx hb dX3_init_5 (by decide) ?_
  refine ah_newa (atype := .long) (ty := .long) (t0 := 2) (a0 := (201, .inr (.inl (fun _ => 0)))) (N := 201) E hP hS rfl (fun _ h => nomatch h) rfl (ah_in 59 (by decide +kernel) rfl) (fun _ => rfl) (by decide) (Nat.le_of_ble_eq_true rfl) (Nat.le_of_ble_eq_true rfl) (Nat.le_of_ble_eq_true rfl) dX3_init_8 (fun la H hn_la hP hS => ?_)
  obtain ⟨F1, eF1⟩ : ∃ Fz : ah_F, Fz = ah_up F la (ah_al D 201 (fun _ => 0)) := ⟨_, rfl⟩
  have hP : ah_K A D F1 H := by rw [eF1]; exact hP
  have hF2 : F1 la = some (ah_al D 201 (fun _ => 0)) := by rw [eF1]; exact ah_up_s _ _ _
  have hF3 : F1 st = some (.inr (3, [.null, .int (nI 0)])) := by rw [eF1]; exact (ah_up_n _ _ (ah_fr hn_la hc0)).trans hc0
  have hz_la : F la = none := hn_la
  have hC4 : ah_ch F F1 [la] := by rw [eF1]; exact ah_ch_u (ah_ch_r _ _) (by simp)
  refine pf_Stream_9 E hini hP hS hF3 (Nat.le_of_ble_eq_true rfl) dX3_init_10 (fun H locs hP hS => ?_)
  obtain ⟨F5, eF5⟩ : ∃ Fz : ah_F, Fz = ah_up F1 st (.inr (3, [.ref la, .int (nI 0)])) := ⟨_, rfl⟩
  have hP : ah_K A D F5 H := by rw [eF5]; exact hP
  have hF6 : F5 st = some (.inr (3, [.ref la, .int (nI 0)])) := by rw [eF5]; exact ah_up_s _ _ _
  have hF7 : F5 la = some (ah_al D 201 (fun _ => 0)) := by rw [eF5]; exact ah_keep hF3 hF2 rfl
  have hC8 : ah_ch F F5 [st, la] := by rw [eF5]; exact ah_ch_u (ah_ch_w hC4) (by simp)
  refine lv_aload_n hx hb dX3_init_13 rfl (lv_at hl 0 rfl) ?_
  refine lv_iconst (v := (nI 0)) hx hb dX3_init_14 (by decide) ?_
  refine pf_Stream_15 E hP hS hF6 (Nat.le_of_ble_eq_true rfl) dX3_init_15 (fun H locs hP hS => ?_)
  obtain ⟨F9, eF9⟩ : ∃ Fz : ah_F, Fz = ah_up F5 st (.inr (3, [.ref la, .int (nI 0)])) := ⟨_, rfl⟩
  have hP : ah_K A D F9 H := by rw [eF9]; exact hP
  have hF10 : F9 st = some (.inr (3, [.ref la, .int (nI 0)])) := by rw [eF9]; exact ah_up_s _ _ _
  have hF11 : F9 la = some (ah_al D 201 (fun _ => 0)) := by rw [eF9]; exact ah_keep hF6 hF7 rfl
  have hC12 : ah_ch F F9 [st, la] := by rw [eF9]; exact ah_ch_u hC8 (by simp)
  rw [hQ]
  exact ah_vret E hr hP hS ⟨la, hz_la, hF10, hF11, hC12⟩ (Nat.le_of_ble_eq_true rfl) (Nat.le_of_ble_eq_true rfl) dX3_init_18

set_option maxHeartbeats 4000000 in
set_option maxRecDepth 100000 in
/-- <init> -/
theorem c_Aho_init (l : Launch) (A : Nat → Prop) (D : ah_G) (F : ah_F) {x : Nat} (hx0 : F x = some (.inr (6, [.null, .null, .null, .null, .null, .int (nI 0)]))) : Met l yX6_init (Cond.code yX6_init cX6_init 1 none :: ah_T) { frames := 2, cells := 10, slots := 2253, locals := 43 } (va_Pc [.ref x] (ah_B A D F)) (ah_Qv A D (fun F1 => ah_C D F1 x (fun _ => none) 0 [] [] (nI 0) ∧ ah_out D F F1)) 10 2253 A := by
  refine ah_met (own := "Ahoarch") (by decide) rfl (Nat.le_of_ble_eq_true rfl) ?_
  intro p e s m below meth c ls E hr hini hl hP hS Q hQ
  have hx := E.1
  have hb := E.2.1
  have hl : lv_has ls 1 [(0, .ref x)] := hl
  refine lv_aload_n hx hb dX6_init_0 rfl (lv_at hl 0 rfl) ?_
  refine oi_Aho E hl.1 dX6_init_1 (Nat.le_of_ble_eq_true rfl) (Nat.le_of_ble_eq_true rfl) ?_
  refine lv_aload_n hx hb dX6_init_4 rfl (lv_at hl 0 rfl) ?_
  refine nw_Aho_7 E hP hS (Nat.le_of_ble_eq_true rfl) (Nat.le_of_ble_eq_true rfl) dX6_init_5 (fun b H hn_b hP hS => ?_)
  obtain ⟨F1, eF1⟩ : ∃ Fz : ah_F, Fz = ah_up F b (.inr (0, [.null, .int (nI 0), .int (nI 0)])) := ⟨_, rfl⟩
  have hP : ah_K A D F1 H := by rw [eF1]; exact hP
  have hF2 : F1 b = some (.inr (0, [.null, .int (nI 0), .int (nI 0)])) := by rw [eF1]; exact ah_up_s _ _ _
  have hF3 : F1 x = some (.inr (6, [.null, .null, .null, .null, .null, .int (nI 0)])) := by rw [eF1]; exact (ah_up_n _ _ (ah_fr hn_b hx0)).trans hx0
  have hz_b : F b = none := hn_b
  have hC4 : ah_ch F F1 [b] := by rw [eF1]; exact ah_ch_u (ah_ch_r _ _) (by simp)
  refine lv_dup hx hb dX6_init_8 rfl ?_
  refine ah_callv (ah_runI E hP hS (As := []) (rest := [.ref b, .ref x]) (b := b) (c_Book_init l A D _ hF2) lk_Aho_9 li_Aho_9 ⟨rfl, rfl, (Nat.le_of_ble_eq_true rfl), (Nat.le_of_ble_eq_true rfl)⟩ rfl hl.1 rfl (Nat.le_of_ble_eq_true rfl) dX6_init_9 ⟨(Nat.le_of_ble_eq_true rfl), (Nat.le_of_ble_eq_true rfl)⟩) hS (fun F5 H locs hin_b hP hS => ?_)
  obtain ⟨ra, hn_ra, hb1, hb2, hcx_b⟩ := hin_b
  have hG6 : F5 x = some (.inr (6, [.null, .null, .null, .null, .null, .int (nI 0)])) := (hcx_b x (ah_nin2 (ah_ne hF3 hF2 rfl) (ah_fr hn_ra hF3))).trans hF3
  have hz_ra : F ra = none := (hC4 ra (ah_nin1 (Ne.symm (ah_fr hn_ra hF2)))).symm.trans hn_ra
  have hC7 : ah_ch F F5 [ra, b] := ah_ch_t (ah_ch_w hC4) hcx_b (by intro a ha; simp only [List.mem_cons, List.not_mem_nil, or_false] at ha ⊢; omega)
  refine pf_Aho_10 E hini hP hS hG6 (Nat.le_of_ble_eq_true rfl) dX6_init_12 (fun H locs hP hS => ?_)
  obtain ⟨F8, eF8⟩ : ∃ Fz : ah_F, Fz = ah_up F5 x (.inr (6, [.ref b, .null, .null, .null, .null, .int (nI 0)])) := ⟨_, rfl⟩
  have hP : ah_K A D F8 H := by rw [eF8]; exact hP
  have hF9 : F8 x = some (.inr (6, [.ref b, .null, .null, .null, .null, .int (nI 0)])) := by rw [eF8]; exact ah_up_s _ _ _
  have hF10 : F8 b = some (.inr (0, [.ref ra, .int (nI 0), .int (nI 0)])) := by rw [eF8]; exact ah_keep hG6 hb1 rfl
  have hF11 : F8 ra = some (ah_aq D 40 (fun _ => none)) := by rw [eF8]; exact ah_keep hG6 hb2 rfl
  have hC12 : ah_ch F F8 [x, ra, b] := by rw [eF8]; exact ah_ch_u (ah_ch_w hC7) (by simp)
  refine lv_aload_n hx hb dX6_init_15 rfl (lv_at hl 0 rfl) ?_
  refine nw_Aho_16 E hP hS (Nat.le_of_ble_eq_true rfl) (Nat.le_of_ble_eq_true rfl) dX6_init_16 (fun st H hn_st hP hS => ?_)
  obtain ⟨F13, eF13⟩ : ∃ Fz : ah_F, Fz = ah_up F8 st (.inr (3, [.null, .int (nI 0)])) := ⟨_, rfl⟩
  have hP : ah_K A D F13 H := by rw [eF13]; exact hP
  have hF14 : F13 st = some (.inr (3, [.null, .int (nI 0)])) := by rw [eF13]; exact ah_up_s _ _ _
  have hF15 : F13 b = some (.inr (0, [.ref ra, .int (nI 0), .int (nI 0)])) := by rw [eF13]; exact (ah_up_n _ _ (ah_fr hn_st hF10)).trans hF10
  have hF16 : F13 ra = some (ah_aq D 40 (fun _ => none)) := by rw [eF13]; exact (ah_up_n _ _ (ah_fr hn_st hF11)).trans hF11
  have hF17 : F13 x = some (.inr (6, [.ref b, .null, .null, .null, .null, .int (nI 0)])) := by rw [eF13]; exact (ah_up_n _ _ (ah_fr hn_st hF9)).trans hF9
  have hz_st : F st = none := (hC12 st (ah_nin3 (Ne.symm (ah_fr hn_st hF9)) (Ne.symm (ah_fr hn_st hF11)) (Ne.symm (ah_fr hn_st hF10)))).symm.trans hn_st
  have hC18 : ah_ch F F13 [st, x, ra, b] := by rw [eF13]; exact ah_ch_u (ah_ch_w hC12) (by simp)
  refine lv_dup hx hb dX6_init_19 rfl ?_
  refine ah_callv (ah_runI E hP hS (As := []) (rest := [.ref st, .ref x]) (b := st) (c_Stream_init l A D _ hF14) lk_Aho_18 li_Aho_18 ⟨rfl, rfl, (Nat.le_of_ble_eq_true rfl), (Nat.le_of_ble_eq_true rfl)⟩ rfl hl.1 rfl (Nat.le_of_ble_eq_true rfl) dX6_init_20 ⟨(Nat.le_of_ble_eq_true rfl), (Nat.le_of_ble_eq_true rfl)⟩) hS (fun F19 H locs hin_st hP hS => ?_)
  obtain ⟨la, hn_la, hs1, hs2, hcx_st⟩ := hin_st
  have hG20 : F19 b = some (.inr (0, [.ref ra, .int (nI 0), .int (nI 0)])) := (hcx_st b (ah_nin2 (ah_ne hF15 hF14 rfl) (ah_fr hn_la hF15))).trans hF15
  have hG21 : F19 ra = some (ah_aq D 40 (fun _ => none)) := (hcx_st ra (ah_nin2 (ah_ne hF16 hF14 rfl) (ah_fr hn_la hF16))).trans hF16
  have hG22 : F19 x = some (.inr (6, [.ref b, .null, .null, .null, .null, .int (nI 0)])) := (hcx_st x (ah_nin2 (ah_ne hF17 hF14 rfl) (ah_fr hn_la hF17))).trans hF17
  have hz_la : F la = none := (hC18 la (ah_nin4 (Ne.symm (ah_fr hn_la hF14)) (Ne.symm (ah_fr hn_la hF17)) (Ne.symm (ah_fr hn_la hF16)) (Ne.symm (ah_fr hn_la hF15)))).symm.trans hn_la
  have hC23 : ah_ch F F19 [la, st, x, ra, b] := ah_ch_t (ah_ch_w hC18) hcx_st (by intro a ha; simp only [List.mem_cons, List.not_mem_nil, or_false] at ha ⊢; omega)
  refine pf_Aho_19 E hini hP hS hG22 (Nat.le_of_ble_eq_true rfl) dX6_init_23 (fun H locs hP hS => ?_)
  obtain ⟨F24, eF24⟩ : ∃ Fz : ah_F, Fz = ah_up F19 x (.inr (6, [.ref b, .ref st, .null, .null, .null, .int (nI 0)])) := ⟨_, rfl⟩
  have hP : ah_K A D F24 H := by rw [eF24]; exact hP
  have hF25 : F24 x = some (.inr (6, [.ref b, .ref st, .null, .null, .null, .int (nI 0)])) := by rw [eF24]; exact ah_up_s _ _ _
  have hF26 : F24 b = some (.inr (0, [.ref ra, .int (nI 0), .int (nI 0)])) := by rw [eF24]; exact ah_keep hG22 hG20 rfl
  have hF27 : F24 ra = some (ah_aq D 40 (fun _ => none)) := by rw [eF24]; exact ah_keep hG22 hG21 rfl
  have hF28 : F24 st = some (.inr (3, [.ref la, .int (nI 0)])) := by rw [eF24]; exact ah_keep hG22 hs1 rfl
  have hF29 : F24 la = some (ah_al D 201 (fun _ => 0)) := by rw [eF24]; exact ah_keep hG22 hs2 rfl
  have hC30 : ah_ch F F24 [la, st, x, ra, b] := by rw [eF24]; exact ah_ch_u hC23 (by simp)
  refine lv_aload_n hx hb dX6_init_26 rfl (lv_at hl 0 rfl) ?_
  refine nw_Aho_23 E hP hS (Nat.le_of_ble_eq_true rfl) (Nat.le_of_ble_eq_true rfl) dX6_init_27 (fun ch H hn_ch hP hS => ?_)
  obtain ⟨F31, eF31⟩ : ∃ Fz : ah_F, Fz = ah_up F24 ch (.inr (1, [.null, .null, .int (nI 0)])) := ⟨_, rfl⟩
  have hP : ah_K A D F31 H := by rw [eF31]; exact hP
  have hF32 : F31 ch = some (.inr (1, [.null, .null, .int (nI 0)])) := by rw [eF31]; exact ah_up_s _ _ _
  have hF33 : F31 b = some (.inr (0, [.ref ra, .int (nI 0), .int (nI 0)])) := by rw [eF31]; exact (ah_up_n _ _ (ah_fr hn_ch hF26)).trans hF26
  have hF34 : F31 ra = some (ah_aq D 40 (fun _ => none)) := by rw [eF31]; exact (ah_up_n _ _ (ah_fr hn_ch hF27)).trans hF27
  have hF35 : F31 st = some (.inr (3, [.ref la, .int (nI 0)])) := by rw [eF31]; exact (ah_up_n _ _ (ah_fr hn_ch hF28)).trans hF28
  have hF36 : F31 la = some (ah_al D 201 (fun _ => 0)) := by rw [eF31]; exact (ah_up_n _ _ (ah_fr hn_ch hF29)).trans hF29
  have hF37 : F31 x = some (.inr (6, [.ref b, .ref st, .null, .null, .null, .int (nI 0)])) := by rw [eF31]; exact (ah_up_n _ _ (ah_fr hn_ch hF25)).trans hF25
  have hz_ch : F ch = none := (hC30 ch (ah_nin5 (Ne.symm (ah_fr hn_ch hF29)) (Ne.symm (ah_fr hn_ch hF28)) (Ne.symm (ah_fr hn_ch hF25)) (Ne.symm (ah_fr hn_ch hF27)) (Ne.symm (ah_fr hn_ch hF26)))).symm.trans hn_ch
  have hC38 : ah_ch F F31 [ch, la, st, x, ra, b] := by rw [eF31]; exact ah_ch_u (ah_ch_w hC30) (by simp)
  refine lv_dup hx hb dX6_init_30 rfl ?_
  refine ah_callv (ah_runI E hP hS (As := []) (rest := [.ref ch, .ref x]) (b := ch) (c_Choice_init l A D _ hF32) lk_Aho_25 li_Aho_25 ⟨rfl, rfl, (Nat.le_of_ble_eq_true rfl), (Nat.le_of_ble_eq_true rfl)⟩ rfl hl.1 rfl (Nat.le_of_ble_eq_true rfl) dX6_init_31 ⟨(Nat.le_of_ble_eq_true rfl), (Nat.le_of_ble_eq_true rfl)⟩) hS (fun F39 H locs hin_ch hP hS => ?_)
  obtain ⟨cp, cl, hn_cp, hn_cl, hh1, hh2, hh3, hcx_ch⟩ := hin_ch
  have hG40 : F39 b = some (.inr (0, [.ref ra, .int (nI 0), .int (nI 0)])) := (hcx_ch b (ah_nin3 (ah_fr hn_cl hF33) (ah_ne hF33 hF32 rfl) (ah_fr hn_cp hF33))).trans hF33
  have hG41 : F39 ra = some (ah_aq D 40 (fun _ => none)) := (hcx_ch ra (ah_nin3 (ah_fr hn_cl hF34) (ah_ne hF34 hF32 rfl) (ah_fr hn_cp hF34))).trans hF34
  have hG42 : F39 st = some (.inr (3, [.ref la, .int (nI 0)])) := (hcx_ch st (ah_nin3 (ah_fr hn_cl hF35) (ah_ne hF35 hF32 rfl) (ah_fr hn_cp hF35))).trans hF35
  have hG43 : F39 la = some (ah_al D 201 (fun _ => 0)) := (hcx_ch la (ah_nin3 (ah_fr hn_cl hF36) (ah_ne hF36 hF32 rfl) (ah_fr hn_cp hF36))).trans hF36
  have hG44 : F39 x = some (.inr (6, [.ref b, .ref st, .null, .null, .null, .int (nI 0)])) := (hcx_ch x (ah_nin3 (ah_fr hn_cl hF37) (ah_ne hF37 hF32 rfl) (ah_fr hn_cp hF37))).trans hF37
  have hz_cl : F cl = none := (hC38 cl (ah_nin6 (Ne.symm (ah_fr hn_cl hF32)) (Ne.symm (ah_fr hn_cl hF36)) (Ne.symm (ah_fr hn_cl hF35)) (Ne.symm (ah_fr hn_cl hF37)) (Ne.symm (ah_fr hn_cl hF34)) (Ne.symm (ah_fr hn_cl hF33)))).symm.trans hn_cl
  have hz_cp : F cp = none := (hC38 cp (ah_nin6 (Ne.symm (ah_fr hn_cp hF32)) (Ne.symm (ah_fr hn_cp hF36)) (Ne.symm (ah_fr hn_cp hF35)) (Ne.symm (ah_fr hn_cp hF37)) (Ne.symm (ah_fr hn_cp hF34)) (Ne.symm (ah_fr hn_cp hF33)))).symm.trans hn_cp
  have hC45 : ah_ch F F39 [cl, cp, ch, la, st, x, ra, b] := ah_ch_t (ah_ch_w (ah_ch_w hC38)) hcx_ch (by intro a ha; simp only [List.mem_cons, List.not_mem_nil, or_false] at ha ⊢; omega)
  refine pf_Aho_26 E hini hP hS hG44 (Nat.le_of_ble_eq_true rfl) dX6_init_34 (fun H locs hP hS => ?_)
  obtain ⟨F46, eF46⟩ : ∃ Fz : ah_F, Fz = ah_up F39 x (.inr (6, [.ref b, .ref st, .ref ch, .null, .null, .int (nI 0)])) := ⟨_, rfl⟩
  have hP : ah_K A D F46 H := by rw [eF46]; exact hP
  have hF47 : F46 x = some (.inr (6, [.ref b, .ref st, .ref ch, .null, .null, .int (nI 0)])) := by rw [eF46]; exact ah_up_s _ _ _
  have hF48 : F46 b = some (.inr (0, [.ref ra, .int (nI 0), .int (nI 0)])) := by rw [eF46]; exact ah_keep hG44 hG40 rfl
  have hF49 : F46 ra = some (ah_aq D 40 (fun _ => none)) := by rw [eF46]; exact ah_keep hG44 hG41 rfl
  have hF50 : F46 st = some (.inr (3, [.ref la, .int (nI 0)])) := by rw [eF46]; exact ah_keep hG44 hG42 rfl
  have hF51 : F46 la = some (ah_al D 201 (fun _ => 0)) := by rw [eF46]; exact ah_keep hG44 hG43 rfl
  have hF52 : F46 ch = some (.inr (1, [.ref cp, .ref cl, .int (nI 0)])) := by rw [eF46]; exact ah_keep hG44 hh1 rfl
  have hF53 : F46 cp = some (ah_aq D 200 (fun _ => none)) := by rw [eF46]; exact ah_keep hG44 hh2 rfl
  have hF54 : F46 cl = some (ah_ai D 200 (fun _ => 0)) := by rw [eF46]; exact ah_keep hG44 hh3 rfl
  have hC55 : ah_ch F F46 [cl, cp, ch, la, st, x, ra, b] := by rw [eF46]; exact ah_ch_u hC45 (by simp)
  refine lv_aload_n hx hb dX6_init_37 rfl (lv_at hl 0 rfl) ?_
  refine nw_Aho_30 E hP hS (Nat.le_of_ble_eq_true rfl) (Nat.le_of_ble_eq_true rfl) dX6_init_38 (fun tx H hn_tx hP hS => ?_)
  obtain ⟨F56, eF56⟩ : ∃ Fz : ah_F, Fz = ah_up F46 tx (.inr (4, [.null, .int (nI 0)])) := ⟨_, rfl⟩
  have hP : ah_K A D F56 H := by rw [eF56]; exact hP
  have hF57 : F56 tx = some (.inr (4, [.null, .int (nI 0)])) := by rw [eF56]; exact ah_up_s _ _ _
  have hF58 : F56 b = some (.inr (0, [.ref ra, .int (nI 0), .int (nI 0)])) := by rw [eF56]; exact (ah_up_n _ _ (ah_fr hn_tx hF48)).trans hF48
  have hF59 : F56 ra = some (ah_aq D 40 (fun _ => none)) := by rw [eF56]; exact (ah_up_n _ _ (ah_fr hn_tx hF49)).trans hF49
  have hF60 : F56 st = some (.inr (3, [.ref la, .int (nI 0)])) := by rw [eF56]; exact (ah_up_n _ _ (ah_fr hn_tx hF50)).trans hF50
  have hF61 : F56 la = some (ah_al D 201 (fun _ => 0)) := by rw [eF56]; exact (ah_up_n _ _ (ah_fr hn_tx hF51)).trans hF51
  have hF62 : F56 ch = some (.inr (1, [.ref cp, .ref cl, .int (nI 0)])) := by rw [eF56]; exact (ah_up_n _ _ (ah_fr hn_tx hF52)).trans hF52
  have hF63 : F56 cp = some (ah_aq D 200 (fun _ => none)) := by rw [eF56]; exact (ah_up_n _ _ (ah_fr hn_tx hF53)).trans hF53
  have hF64 : F56 cl = some (ah_ai D 200 (fun _ => 0)) := by rw [eF56]; exact (ah_up_n _ _ (ah_fr hn_tx hF54)).trans hF54
  have hF65 : F56 x = some (.inr (6, [.ref b, .ref st, .ref ch, .null, .null, .int (nI 0)])) := by rw [eF56]; exact (ah_up_n _ _ (ah_fr hn_tx hF47)).trans hF47
  have hz_tx : F tx = none := (hC55 tx (ah_nin8 (Ne.symm (ah_fr hn_tx hF54)) (Ne.symm (ah_fr hn_tx hF53)) (Ne.symm (ah_fr hn_tx hF52)) (Ne.symm (ah_fr hn_tx hF51)) (Ne.symm (ah_fr hn_tx hF50)) (Ne.symm (ah_fr hn_tx hF47)) (Ne.symm (ah_fr hn_tx hF49)) (Ne.symm (ah_fr hn_tx hF48)))).symm.trans hn_tx
  have hC66 : ah_ch F F56 [tx, cl, cp, ch, la, st, x, ra, b] := by rw [eF56]; exact ah_ch_u (ah_ch_w hC55) (by simp)
  refine lv_dup hx hb dX6_init_41 rfl ?_
  refine ah_callv (ah_runI E hP hS (As := []) (rest := [.ref tx, .ref x]) (b := tx) (c_Text_init l A D _ hF57) lk_Aho_32 li_Aho_32 ⟨rfl, rfl, (Nat.le_of_ble_eq_true rfl), (Nat.le_of_ble_eq_true rfl)⟩ rfl hl.1 rfl (Nat.le_of_ble_eq_true rfl) dX6_init_42 ⟨(Nat.le_of_ble_eq_true rfl), (Nat.le_of_ble_eq_true rfl)⟩) hS (fun F67 H locs hin_tx hP hS => ?_)
  obtain ⟨ta, hn_ta, ht1, ht2, hcx_tx⟩ := hin_tx
  have hG68 : F67 b = some (.inr (0, [.ref ra, .int (nI 0), .int (nI 0)])) := (hcx_tx b (ah_nin2 (ah_ne hF58 hF57 rfl) (ah_fr hn_ta hF58))).trans hF58
  have hG69 : F67 ra = some (ah_aq D 40 (fun _ => none)) := (hcx_tx ra (ah_nin2 (ah_ne hF59 hF57 rfl) (ah_fr hn_ta hF59))).trans hF59
  have hG70 : F67 st = some (.inr (3, [.ref la, .int (nI 0)])) := (hcx_tx st (ah_nin2 (ah_ne hF60 hF57 rfl) (ah_fr hn_ta hF60))).trans hF60
  have hG71 : F67 la = some (ah_al D 201 (fun _ => 0)) := (hcx_tx la (ah_nin2 (ah_ne hF61 hF57 rfl) (ah_fr hn_ta hF61))).trans hF61
  have hG72 : F67 ch = some (.inr (1, [.ref cp, .ref cl, .int (nI 0)])) := (hcx_tx ch (ah_nin2 (ah_ne hF62 hF57 rfl) (ah_fr hn_ta hF62))).trans hF62
  have hG73 : F67 cp = some (ah_aq D 200 (fun _ => none)) := (hcx_tx cp (ah_nin2 (ah_ne hF63 hF57 rfl) (ah_fr hn_ta hF63))).trans hF63
  have hG74 : F67 cl = some (ah_ai D 200 (fun _ => 0)) := (hcx_tx cl (ah_nin2 (ah_ne hF64 hF57 rfl) (ah_fr hn_ta hF64))).trans hF64
  have hG75 : F67 x = some (.inr (6, [.ref b, .ref st, .ref ch, .null, .null, .int (nI 0)])) := (hcx_tx x (ah_nin2 (ah_ne hF65 hF57 rfl) (ah_fr hn_ta hF65))).trans hF65
  have hz_ta : F ta = none := (hC66 ta (ah_nin9 (Ne.symm (ah_fr hn_ta hF57)) (Ne.symm (ah_fr hn_ta hF64)) (Ne.symm (ah_fr hn_ta hF63)) (Ne.symm (ah_fr hn_ta hF62)) (Ne.symm (ah_fr hn_ta hF61)) (Ne.symm (ah_fr hn_ta hF60)) (Ne.symm (ah_fr hn_ta hF65)) (Ne.symm (ah_fr hn_ta hF59)) (Ne.symm (ah_fr hn_ta hF58)))).symm.trans hn_ta
  have hC76 : ah_ch F F67 [ta, tx, cl, cp, ch, la, st, x, ra, b] := ah_ch_t (ah_ch_w hC66) hcx_tx (by intro a ha; simp only [List.mem_cons, List.not_mem_nil, or_false] at ha ⊢; omega)
  refine pf_Aho_33 E hini hP hS hG75 (Nat.le_of_ble_eq_true rfl) dX6_init_45 (fun H locs hP hS => ?_)
  obtain ⟨F77, eF77⟩ : ∃ Fz : ah_F, Fz = ah_up F67 x (.inr (6, [.ref b, .ref st, .ref ch, .ref tx, .null, .int (nI 0)])) := ⟨_, rfl⟩
  have hP : ah_K A D F77 H := by rw [eF77]; exact hP
  have hF78 : F77 x = some (.inr (6, [.ref b, .ref st, .ref ch, .ref tx, .null, .int (nI 0)])) := by rw [eF77]; exact ah_up_s _ _ _
  have hF79 : F77 b = some (.inr (0, [.ref ra, .int (nI 0), .int (nI 0)])) := by rw [eF77]; exact ah_keep hG75 hG68 rfl
  have hF80 : F77 ra = some (ah_aq D 40 (fun _ => none)) := by rw [eF77]; exact ah_keep hG75 hG69 rfl
  have hF81 : F77 st = some (.inr (3, [.ref la, .int (nI 0)])) := by rw [eF77]; exact ah_keep hG75 hG70 rfl
  have hF82 : F77 la = some (ah_al D 201 (fun _ => 0)) := by rw [eF77]; exact ah_keep hG75 hG71 rfl
  have hF83 : F77 ch = some (.inr (1, [.ref cp, .ref cl, .int (nI 0)])) := by rw [eF77]; exact ah_keep hG75 hG72 rfl
  have hF84 : F77 cp = some (ah_aq D 200 (fun _ => none)) := by rw [eF77]; exact ah_keep hG75 hG73 rfl
  have hF85 : F77 cl = some (ah_ai D 200 (fun _ => 0)) := by rw [eF77]; exact ah_keep hG75 hG74 rfl
  have hF86 : F77 tx = some (.inr (4, [.ref ta, .int (nI 0)])) := by rw [eF77]; exact ah_keep hG75 ht1 rfl
  have hF87 : F77 ta = some (ah_ac D 1600 (fun _ => 0)) := by rw [eF77]; exact ah_keep hG75 ht2 rfl
  have hC88 : ah_ch F F77 [ta, tx, cl, cp, ch, la, st, x, ra, b] := by rw [eF77]; exact ah_ch_u hC76 (by simp)
  refine lv_aload_n hx hb dX6_init_48 rfl (lv_at hl 0 rfl) ?_
  refine nw_Aho_37 E hP hS (Nat.le_of_ble_eq_true rfl) (Nat.le_of_ble_eq_true rfl) dX6_init_49 (fun dw H hn_dw hP hS => ?_)
  obtain ⟨F89, eF89⟩ : ∃ Fz : ah_F, Fz = ah_up F77 dw (.inr (5, [.long (lN 0), .int (nI 0)])) := ⟨_, rfl⟩
  have hP : ah_K A D F89 H := by rw [eF89]; exact hP
  have hF90 : F89 dw = some (.inr (5, [.long (lN 0), .int (nI 0)])) := by rw [eF89]; exact ah_up_s _ _ _
  have hF91 : F89 b = some (.inr (0, [.ref ra, .int (nI 0), .int (nI 0)])) := by rw [eF89]; exact (ah_up_n _ _ (ah_fr hn_dw hF79)).trans hF79
  have hF92 : F89 ra = some (ah_aq D 40 (fun _ => none)) := by rw [eF89]; exact (ah_up_n _ _ (ah_fr hn_dw hF80)).trans hF80
  have hF93 : F89 st = some (.inr (3, [.ref la, .int (nI 0)])) := by rw [eF89]; exact (ah_up_n _ _ (ah_fr hn_dw hF81)).trans hF81
  have hF94 : F89 la = some (ah_al D 201 (fun _ => 0)) := by rw [eF89]; exact (ah_up_n _ _ (ah_fr hn_dw hF82)).trans hF82
  have hF95 : F89 ch = some (.inr (1, [.ref cp, .ref cl, .int (nI 0)])) := by rw [eF89]; exact (ah_up_n _ _ (ah_fr hn_dw hF83)).trans hF83
  have hF96 : F89 cp = some (ah_aq D 200 (fun _ => none)) := by rw [eF89]; exact (ah_up_n _ _ (ah_fr hn_dw hF84)).trans hF84
  have hF97 : F89 cl = some (ah_ai D 200 (fun _ => 0)) := by rw [eF89]; exact (ah_up_n _ _ (ah_fr hn_dw hF85)).trans hF85
  have hF98 : F89 tx = some (.inr (4, [.ref ta, .int (nI 0)])) := by rw [eF89]; exact (ah_up_n _ _ (ah_fr hn_dw hF86)).trans hF86
  have hF99 : F89 ta = some (ah_ac D 1600 (fun _ => 0)) := by rw [eF89]; exact (ah_up_n _ _ (ah_fr hn_dw hF87)).trans hF87
  have hF100 : F89 x = some (.inr (6, [.ref b, .ref st, .ref ch, .ref tx, .null, .int (nI 0)])) := by rw [eF89]; exact (ah_up_n _ _ (ah_fr hn_dw hF78)).trans hF78
  have hz_dw : F dw = none := (hC88 dw (ah_nin10 (Ne.symm (ah_fr hn_dw hF87)) (Ne.symm (ah_fr hn_dw hF86)) (Ne.symm (ah_fr hn_dw hF85)) (Ne.symm (ah_fr hn_dw hF84)) (Ne.symm (ah_fr hn_dw hF83)) (Ne.symm (ah_fr hn_dw hF82)) (Ne.symm (ah_fr hn_dw hF81)) (Ne.symm (ah_fr hn_dw hF78)) (Ne.symm (ah_fr hn_dw hF80)) (Ne.symm (ah_fr hn_dw hF79)))).symm.trans hn_dw
  have hC101 : ah_ch F F89 [dw, ta, tx, cl, cp, ch, la, st, x, ra, b] := by rw [eF89]; exact ah_ch_u (ah_ch_w hC88) (by simp)
  refine lv_dup hx hb dX6_init_52 rfl ?_
  refine lv_lconst (v := (lN 0)) hx hb dX6_init_53 rfl ?_
  refine lv_iconst (v := (nI 0)) hx hb dX6_init_54 (by decide) ?_
  refine ah_callv (ah_runI E hP hS (As := [.long (lN 0), .int (nI 0)]) (rest := [.ref dw, .ref x]) (b := dw) (c_Word_init l A D _ hF90) lk_Aho_39 li_Aho_39 ⟨rfl, rfl, (Nat.le_of_ble_eq_true rfl), (Nat.le_of_ble_eq_true rfl)⟩ rfl hl.1 rfl (Nat.le_of_ble_eq_true rfl) dX6_init_55 ⟨(Nat.le_of_ble_eq_true rfl), (Nat.le_of_ble_eq_true rfl)⟩) hS (fun F102 H locs hw0 hP hS => ?_)
  have hG103 : F102 b = some (.inr (0, [.ref ra, .int (nI 0), .int (nI 0)])) := by rw [hw0]; exact ah_keep hF90 hF91 rfl
  have hG104 : F102 ra = some (ah_aq D 40 (fun _ => none)) := by rw [hw0]; exact ah_keep hF90 hF92 rfl
  have hG105 : F102 st = some (.inr (3, [.ref la, .int (nI 0)])) := by rw [hw0]; exact ah_keep hF90 hF93 rfl
  have hG106 : F102 la = some (ah_al D 201 (fun _ => 0)) := by rw [hw0]; exact ah_keep hF90 hF94 rfl
  have hG107 : F102 ch = some (.inr (1, [.ref cp, .ref cl, .int (nI 0)])) := by rw [hw0]; exact ah_keep hF90 hF95 rfl
  have hG108 : F102 cp = some (ah_aq D 200 (fun _ => none)) := by rw [hw0]; exact ah_keep hF90 hF96 rfl
  have hG109 : F102 cl = some (ah_ai D 200 (fun _ => 0)) := by rw [hw0]; exact ah_keep hF90 hF97 rfl
  have hG110 : F102 tx = some (.inr (4, [.ref ta, .int (nI 0)])) := by rw [hw0]; exact ah_keep hF90 hF98 rfl
  have hG111 : F102 ta = some (ah_ac D 1600 (fun _ => 0)) := by rw [hw0]; exact ah_keep hF90 hF99 rfl
  have hG112 : F102 x = some (.inr (6, [.ref b, .ref st, .ref ch, .ref tx, .null, .int (nI 0)])) := by rw [hw0]; exact ah_keep hF90 hF100 rfl
  have hG113 : F102 dw = some (.inr (5, [.long (lN 0), .int (nI 0)])) := by rw [hw0]; exact ah_up_s _ _ _
  have hC114 : ah_ch F F102 [dw, ta, tx, cl, cp, ch, la, st, x, ra, b] := by rw [hw0]; exact ah_ch_u hC101 (by simp)
  refine pf_Aho_42 E hP hS hG112 (Nat.le_of_ble_eq_true rfl) dX6_init_58 (fun H locs hP hS => ?_)
  obtain ⟨F115, eF115⟩ : ∃ Fz : ah_F, Fz = ah_up F102 x (.inr (6, [.ref b, .ref st, .ref ch, .ref tx, .ref dw, .int (nI 0)])) := ⟨_, rfl⟩
  have hP : ah_K A D F115 H := by rw [eF115]; exact hP
  have hF116 : F115 x = some (.inr (6, [.ref b, .ref st, .ref ch, .ref tx, .ref dw, .int (nI 0)])) := by rw [eF115]; exact ah_up_s _ _ _
  have hF117 : F115 b = some (.inr (0, [.ref ra, .int (nI 0), .int (nI 0)])) := by rw [eF115]; exact ah_keep hG112 hG103 rfl
  have hF118 : F115 ra = some (ah_aq D 40 (fun _ => none)) := by rw [eF115]; exact ah_keep hG112 hG104 rfl
  have hF119 : F115 st = some (.inr (3, [.ref la, .int (nI 0)])) := by rw [eF115]; exact ah_keep hG112 hG105 rfl
  have hF120 : F115 la = some (ah_al D 201 (fun _ => 0)) := by rw [eF115]; exact ah_keep hG112 hG106 rfl
  have hF121 : F115 ch = some (.inr (1, [.ref cp, .ref cl, .int (nI 0)])) := by rw [eF115]; exact ah_keep hG112 hG107 rfl
  have hF122 : F115 cp = some (ah_aq D 200 (fun _ => none)) := by rw [eF115]; exact ah_keep hG112 hG108 rfl
  have hF123 : F115 cl = some (ah_ai D 200 (fun _ => 0)) := by rw [eF115]; exact ah_keep hG112 hG109 rfl
  have hF124 : F115 tx = some (.inr (4, [.ref ta, .int (nI 0)])) := by rw [eF115]; exact ah_keep hG112 hG110 rfl
  have hF125 : F115 ta = some (ah_ac D 1600 (fun _ => 0)) := by rw [eF115]; exact ah_keep hG112 hG111 rfl
  have hF126 : F115 dw = some (.inr (5, [.long (lN 0), .int (nI 0)])) := by rw [eF115]; exact ah_keep hG112 hG113 rfl
  have hC127 : ah_ch F F115 [dw, ta, tx, cl, cp, ch, la, st, x, ra, b] := by rw [eF115]; exact ah_ch_u hC114 (by simp)
  refine lv_aload_n hx hb dX6_init_61 rfl (lv_at hl 0 rfl) ?_
  refine lv_iconst (v := (nI 0)) hx hb dX6_init_62 (by decide) ?_
  refine pf_Aho_46 E hP hS hF116 (Nat.le_of_ble_eq_true rfl) dX6_init_63 (fun H locs hP hS => ?_)
  obtain ⟨F128, eF128⟩ : ∃ Fz : ah_F, Fz = ah_up F115 x (.inr (6, [.ref b, .ref st, .ref ch, .ref tx, .ref dw, .int (nI 0)])) := ⟨_, rfl⟩
  have hP : ah_K A D F128 H := by rw [eF128]; exact hP
  have hF129 : F128 x = some (.inr (6, [.ref b, .ref st, .ref ch, .ref tx, .ref dw, .int (nI 0)])) := by rw [eF128]; exact ah_up_s _ _ _
  have hF130 : F128 b = some (.inr (0, [.ref ra, .int (nI 0), .int (nI 0)])) := by rw [eF128]; exact ah_keep hF116 hF117 rfl
  have hF131 : F128 ra = some (ah_aq D 40 (fun _ => none)) := by rw [eF128]; exact ah_keep hF116 hF118 rfl
  have hF132 : F128 st = some (.inr (3, [.ref la, .int (nI 0)])) := by rw [eF128]; exact ah_keep hF116 hF119 rfl
  have hF133 : F128 la = some (ah_al D 201 (fun _ => 0)) := by rw [eF128]; exact ah_keep hF116 hF120 rfl
  have hF134 : F128 ch = some (.inr (1, [.ref cp, .ref cl, .int (nI 0)])) := by rw [eF128]; exact ah_keep hF116 hF121 rfl
  have hF135 : F128 cp = some (ah_aq D 200 (fun _ => none)) := by rw [eF128]; exact ah_keep hF116 hF122 rfl
  have hF136 : F128 cl = some (ah_ai D 200 (fun _ => 0)) := by rw [eF128]; exact ah_keep hF116 hF123 rfl
  have hF137 : F128 tx = some (.inr (4, [.ref ta, .int (nI 0)])) := by rw [eF128]; exact ah_keep hF116 hF124 rfl
  have hF138 : F128 ta = some (ah_ac D 1600 (fun _ => 0)) := by rw [eF128]; exact ah_keep hF116 hF125 rfl
  have hF139 : F128 dw = some (.inr (5, [.long (lN 0), .int (nI 0)])) := by rw [eF128]; exact ah_keep hF116 hF126 rfl
  have hC140 : ah_ch F F128 [dw, ta, tx, cl, cp, ch, la, st, x, ra, b] := by rw [eF128]; exact ah_ch_u hC127 (by simp)
  rw [hQ]
  exact ah_vret E hr hP hS ⟨⟨b, ra, st, la, ch, cp, cl, tx, ta, dw, _, _, _, _, _, 0, 0, 0, hF129, hF130, hF131, ah_rows_0 _, hF132, hF133, ah_str_0, hF134, hF135, hF136, hF137, hF138, hF139, ⟨Nat.zero_le _, fun z hz => by simp at hz⟩, Nat.zero_le _, fun _ _ => rfl, rfl, Nat.zero_le _⟩, (ah_out_c hC140 (ah_all11 (ah_no_n hz_dw) (ah_no_n hz_ta) (ah_no_n hz_tx) (ah_no_n hz_cl) (ah_no_n hz_cp) (ah_no_n hz_ch) (ah_no_n hz_la) (ah_no_n hz_st) (ah_no_t hx0 rfl) (ah_no_n hz_ra) (ah_no_n hz_b)))⟩ (Nat.le_of_ble_eq_true rfl) (Nat.le_of_ble_eq_true rfl) dX6_init_66
