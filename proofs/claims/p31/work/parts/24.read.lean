theorem ah_kt_ge {p : Nat → Bool} {n : Nat} {x r : Int32} (h : (match ah_kt p n x with | some i => nI i | none => -1) = r) (h2 : 0 ≤ r) : ∃ k, ah_kt p n x = some k ∧ nI k = r := by
  cases hk : ah_kt p n x with
  | none => rw [hk] at h; subst h; exact absurd h2 (by decide)
  | some k => rw [hk] at h; exact ⟨k, rfl, h⟩
theorem ah_kt_lt {p : Nat → Bool} {n : Nat} {x r : Int32} (h : (match ah_kt p n x with | some i => nI i | none => -1) = r) (hn : n < 2 ^ 31) (h2 : ¬ 0 ≤ r) : ah_kt p n x = none := by
  cases hk : ah_kt p n x with
  | none => rfl
  | some k =>
    rw [hk] at h; subst h
    have := (ah_fst_s.mp hk).1
    exact absurd (nI_pos' (by omega)) h2
set_option maxHeartbeats 4000000 in
set_option maxRecDepth 100000 in
/-- told -/
theorem c_told (l : Launch) (A : Nat → Prop) (D : ah_G) (F : ah_F) {x n : Nat} {P : ah_Pt} {dr S : List Nat} {td : Int32} (hC : ah_C D F x P n dr S td)  : Met l yX6_told (Cond.code yX6_told cX6_told 1 (some .int) :: ah_T) { frames := 0, cells := 0, slots := 0, locals := 0 } (va_Pc [.ref x] (ah_B A D F)) (ah_Qi A D (fun (r : Int32) F1 => F = F1 ∧ td = r)) 0 0 A := by
  refine ah_met (own := "Ahoarch") (by decide) rfl (Nat.le_of_ble_eq_true rfl) ?_
  intro p e s m below meth c ls E hr hini hl hP hS Q hQ
  have hx := E.1
  have hb := E.2.1
  have hl : lv_has ls 1 [(0, .ref x)] := hl
  obtain ⟨b, ra, st, la, ch, cp, cl, tx, ta, dw, rf, lf, pf, plf, tf, cc, tc, pr, hxx, hbk, hra, hrows, hst, hla, hstr, hch, hcp, hcl, htx, hta, hdw, hdok, hn40, hPn, hpr, hpr20⟩ := id hC
  obtain ⟨hS1, hS2, hS3⟩ := id hstr
  refine lv_aload_n hx hb dX6_told_0 rfl (lv_at hl 0 rfl) ?_
  refine gf_Aho_46 E hP hxx rfl dX6_told_1 ?_
  rw [hQ]
  exact ah_iret E hr hP hS ⟨rfl, rfl⟩ (Nat.le_of_ble_eq_true rfl) (Nat.le_of_ble_eq_true rfl) dX6_told_4

set_option maxHeartbeats 4000000 in
set_option maxRecDepth 100000 in
/-- streamLength -/
theorem c_streamLength (l : Launch) (A : Nat → Prop) (D : ah_G) (F : ah_F) {x n : Nat} {P : ah_Pt} {dr S : List Nat} {td : Int32} (hC : ah_C D F x P n dr S td)  : Met l yX6_streamLength (Cond.code yX6_streamLength cX6_streamLength 1 (some .int) :: ah_T) { frames := 0, cells := 0, slots := 0, locals := 0 } (va_Pc [.ref x] (ah_B A D F)) (ah_Qi A D (fun (r : Int32) F1 => F = F1 ∧ nI S.length = r)) 0 0 A := by
  refine ah_met (own := "Ahoarch") (by decide) rfl (Nat.le_of_ble_eq_true rfl) ?_
  intro p e s m below meth c ls E hr hini hl hP hS Q hQ
  have hx := E.1
  have hb := E.2.1
  have hl : lv_has ls 1 [(0, .ref x)] := hl
  obtain ⟨b, ra, st, la, ch, cp, cl, tx, ta, dw, rf, lf, pf, plf, tf, cc, tc, pr, hxx, hbk, hra, hrows, hst, hla, hstr, hch, hcp, hcl, htx, hta, hdw, hdok, hn40, hPn, hpr, hpr20⟩ := id hC
  obtain ⟨hS1, hS2, hS3⟩ := id hstr
  refine lv_aload_n hx hb dX6_streamLength_0 rfl (lv_at hl 0 rfl) ?_
  refine gf_Aho_19 E hP hxx rfl dX6_streamLength_1 ?_
  refine gf_Aho_143 E hP hst rfl dX6_streamLength_4 ?_
  rw [hQ]
  exact ah_iret E hr hP hS ⟨rfl, rfl⟩ (Nat.le_of_ble_eq_true rfl) (Nat.le_of_ble_eq_true rfl) dX6_streamLength_7

set_option maxHeartbeats 4000000 in
set_option maxRecDepth 100000 in
/-- patterns -/
theorem c_patterns (l : Launch) (A : Nat → Prop) (D : ah_G) (F : ah_F) {x n : Nat} {P : ah_Pt} {dr S : List Nat} {td : Int32} (hC : ah_C D F x P n dr S td)  : Met l yX6_patterns (Cond.code yX6_patterns cX6_patterns 1 (some .int) :: ah_T) { frames := 0, cells := 0, slots := 0, locals := 0 } (va_Pc [.ref x] (ah_B A D F)) (ah_Qi A D (fun (r : Int32) F1 => F = F1 ∧ nI (pu_cn (fun i => (P i).isSome) 40) = r)) 0 0 A := by
  refine ah_met (own := "Ahoarch") (by decide) rfl (Nat.le_of_ble_eq_true rfl) ?_
  intro p e s m below meth c ls E hr hini hl hP hS Q hQ
  have hx := E.1
  have hb := E.2.1
  have hl : lv_has ls 1 [(0, .ref x)] := hl
  obtain ⟨b, ra, st, la, ch, cp, cl, tx, ta, dw, rf, lf, pf, plf, tf, cc, tc, pr, hxx, hbk, hra, hrows, hst, hla, hstr, hch, hcp, hcl, htx, hta, hdw, hdok, hn40, hPn, hpr, hpr20⟩ := id hC
  obtain ⟨hS1, hS2, hS3⟩ := id hstr
  refine lv_aload_n hx hb dX6_patterns_0 rfl (lv_at hl 0 rfl) ?_
  refine gf_Aho_10 E hP hxx rfl dX6_patterns_1 ?_
  refine gf_Aho_99 E hP hbk rfl dX6_patterns_4 ?_
  rw [hQ]
  exact ah_iret E hr hP hS ⟨rfl, by rw [hpr]⟩ (Nat.le_of_ble_eq_true rfl) (Nat.le_of_ble_eq_true rfl) dX6_patterns_7

set_option maxHeartbeats 4000000 in
set_option maxRecDepth 100000 in
/-- ending -/
theorem c_ending (l : Launch) (A : Nat → Prop) (D : ah_G) (F : ah_F) {x n : Nat} {P : ah_Pt} {dr S : List Nat} {td : Int32} (hC : ah_C D F x P n dr S td)  : Met l yX6_ending (Cond.code yX6_ending cX6_ending 1 (some .int) :: ah_T) { frames := 3, cells := 0, slots := 0, locals := 71 } (va_Pc [.ref x] (ah_B A D F)) (ah_Qi A D (fun (r : Int32) F1 => F = F1 ∧ nI (pu_cn (ah_sat P (fun w => ah_en S S.length w)) 40) = r)) 0 0 A := by
  refine ah_met (own := "Ahoarch") (by decide) rfl (Nat.le_of_ble_eq_true rfl) ?_
  intro p e s m below meth c ls E hr hini hl hP hS Q hQ
  have hx := E.1
  have hb := E.2.1
  have hl : lv_has ls 1 [(0, .ref x)] := hl
  obtain ⟨b, ra, st, la, ch, cp, cl, tx, ta, dw, rf, lf, pf, plf, tf, cc, tc, pr, hxx, hbk, hra, hrows, hst, hla, hstr, hch, hcp, hcl, htx, hta, hdw, hdok, hn40, hPn, hpr, hpr20⟩ := id hC
  obtain ⟨hS1, hS2, hS3⟩ := id hstr
  refine lv_aload_n hx hb dX6_ending_0 rfl (lv_at hl 0 rfl) ?_
  refine gf_Aho_10 E hP hxx rfl dX6_ending_1 ?_
  refine lv_aload_n hx hb dX6_ending_4 rfl (lv_at hl 0 rfl) ?_
  refine gf_Aho_19 E hP hxx rfl dX6_ending_5 ?_
  refine lv_aload_n hx hb dX6_ending_8 rfl (lv_at hl 0 rfl) ?_
  refine gf_Aho_19 E hP hxx rfl dX6_ending_9 ?_
  refine gf_Aho_143 E hP hst rfl dX6_ending_12 ?_
  refine ah_calli (ah_runV E hP hS (As := [.ref st, .int (nI S.length)]) (rest := []) (b := b) (c_Book_countBefore l A D _ hbk hra hrows hst hla hstr (Nat.le_refl _)) lk_Aho_148 li_Aho_148 hbk rfl ⟨rfl, rfl, (Nat.le_of_ble_eq_true rfl), (Nat.le_of_ble_eq_true rfl)⟩ rfl hl.1 rfl (Nat.le_of_ble_eq_true rfl) dX6_ending_15 ⟨(Nat.le_of_ble_eq_true rfl), (Nat.le_of_ble_eq_true rfl)⟩) hS (fun r F1 H locs hq hP hS => ?_)
  obtain ⟨rfl, rfl⟩ := hq
  rw [hQ]
  exact ah_iret E hr hP hS ⟨rfl, rfl⟩ (Nat.le_of_ble_eq_true rfl) (Nat.le_of_ble_eq_true rfl) dX6_ending_18

set_option maxHeartbeats 4000000 in
set_option maxRecDepth 100000 in
/-- depth -/
theorem c_depth (l : Launch) (A : Nat → Prop) (D : ah_G) (F : ah_F) {x n : Nat} {P : ah_Pt} {dr S : List Nat} {td : Int32} (hC : ah_C D F x P n dr S td)  : Met l yX6_depth (Cond.code yX6_depth cX6_depth 1 (some .int) :: ah_T) { frames := 3, cells := 0, slots := 0, locals := 75 } (va_Pc [.ref x] (ah_B A D F)) (ah_Qi A D (fun (r : Int32) F1 => F = F1 ∧ nI (ah_le P (ah_l8 S) (min S.length 8)) = r)) 0 0 A := by
  refine ah_met (own := "Ahoarch") (by decide) rfl (Nat.le_of_ble_eq_true rfl) ?_
  intro p e s m below meth c ls E hr hini hl hP hS Q hQ
  have hx := E.1
  have hb := E.2.1
  have hl : lv_has ls 1 [(0, .ref x)] := hl
  obtain ⟨b, ra, st, la, ch, cp, cl, tx, ta, dw, rf, lf, pf, plf, tf, cc, tc, pr, hxx, hbk, hra, hrows, hst, hla, hstr, hch, hcp, hcl, htx, hta, hdw, hdok, hn40, hPn, hpr, hpr20⟩ := id hC
  obtain ⟨hS1, hS2, hS3⟩ := id hstr
  refine lv_aload_n hx hb dX6_depth_0 rfl (lv_at hl 0 rfl) ?_
  refine gf_Aho_10 E hP hxx rfl dX6_depth_1 ?_
  refine lv_aload_n hx hb dX6_depth_4 rfl (lv_at hl 0 rfl) ?_
  refine gf_Aho_19 E hP hxx rfl dX6_depth_5 ?_
  refine lv_aload_n hx hb dX6_depth_8 rfl (lv_at hl 0 rfl) ?_
  refine gf_Aho_19 E hP hxx rfl dX6_depth_9 ?_
  refine gf_Aho_143 E hP hst rfl dX6_depth_12 ?_
  refine ah_calll (ah_runV E hP hS (As := [.int (nI S.length)]) (rest := [.ref b]) (b := st) (c_Stream_lastsBefore l A D _ hst hla hstr (k := S.length) (by omega)) lk_Aho_144 li_Aho_144 hst rfl ⟨rfl, rfl, (Nat.le_of_ble_eq_true rfl), (Nat.le_of_ble_eq_true rfl)⟩ rfl hl.1 rfl (Nat.le_of_ble_eq_true rfl) dX6_depth_15 ⟨(Nat.le_of_ble_eq_true rfl), (Nat.le_of_ble_eq_true rfl)⟩) hS (fun r F1 H locs hq hP hS => ?_)
  obtain ⟨rfl, rfl⟩ := hq
  rw [ah_lb_all]
  refine lv_aload_n hx hb dX6_depth_18 rfl (lv_at hl 0 rfl) ?_
  refine gf_Aho_19 E hP hxx rfl dX6_depth_19 ?_
  refine gf_Aho_143 E hP hst rfl dX6_depth_22 ?_
  refine lv_bipush (v := (nI 8)) hx hb dX6_depth_25 (by decide) ?_
  refine mi_Aho_117 E hl.1 (by omega) (by omega) (Nat.le_of_ble_eq_true rfl) (Nat.le_of_ble_eq_true rfl) (Nat.le_of_ble_eq_true rfl) (Nat.le_of_ble_eq_true rfl) dX6_depth_27 ?_
  refine ah_calli (ah_runV E hP hS (As := [.long (lN (ah_enc (ah_l8 S))), .int (nI (min S.length 8))]) (rest := []) (b := b) (c_Book_longestEnd l A D _ hbk hra hrows (t := ah_l8 S) (mo := min S.length 8) (ah_l8_ok hS2) (by simp only [ah_l8, List.length_drop]; omega)) lk_Aho_113 li_Aho_113 hbk rfl ⟨rfl, rfl, (Nat.le_of_ble_eq_true rfl), (Nat.le_of_ble_eq_true rfl)⟩ rfl hl.1 rfl (Nat.le_of_ble_eq_true rfl) dX6_depth_30 ⟨(Nat.le_of_ble_eq_true rfl), (Nat.le_of_ble_eq_true rfl)⟩) hS (fun r F2 H locs hq hP hS => ?_)
  obtain ⟨rfl, rfl⟩ := hq
  rw [hQ]
  exact ah_iret E hr hP hS ⟨rfl, rfl⟩ (Nat.le_of_ble_eq_true rfl) (Nat.le_of_ble_eq_true rfl) dX6_depth_33

set_option maxHeartbeats 4000000 in
set_option maxRecDepth 100000 in
/-- beginnings -/
theorem c_beginnings (l : Launch) (A : Nat → Prop) (D : ah_G) (F : ah_F) {x n : Nat} {P : ah_Pt} {dr S : List Nat} {td : Int32} (hC : ah_C D F x P n dr S td)  : Met l yX6_beginnings (Cond.code yX6_beginnings cX6_beginnings 1 (some .int) :: ah_T) { frames := 4, cells := 0, slots := 0, locals := 96 } (va_Pc [.ref x] (ah_B A D F)) (ah_Qi A D (fun (r : Int32) F1 => F = F1 ∧ nI (pu_cb P 40) = r)) 0 0 A := by
  refine ah_met (own := "Ahoarch") (by decide) rfl (Nat.le_of_ble_eq_true rfl) ?_
  intro p e s m below meth c ls E hr hini hl hP hS Q hQ
  have hx := E.1
  have hb := E.2.1
  have hl : lv_has ls 1 [(0, .ref x)] := hl
  obtain ⟨b, ra, st, la, ch, cp, cl, tx, ta, dw, rf, lf, pf, plf, tf, cc, tc, pr, hxx, hbk, hra, hrows, hst, hla, hstr, hch, hcp, hcl, htx, hta, hdw, hdok, hn40, hPn, hpr, hpr20⟩ := id hC
  obtain ⟨hS1, hS2, hS3⟩ := id hstr
  refine lv_aload_n hx hb dX6_beginnings_0 rfl (lv_at hl 0 rfl) ?_
  refine gf_Aho_10 E hP hxx rfl dX6_beginnings_1 ?_
  refine ah_calli (ah_runV E hP hS (As := []) (rest := []) (b := b) (c_Book_countBeginnings l A D _ hbk hra hrows) lk_Aho_105 li_Aho_105 hbk rfl ⟨rfl, rfl, (Nat.le_of_ble_eq_true rfl), (Nat.le_of_ble_eq_true rfl)⟩ rfl hl.1 rfl (Nat.le_of_ble_eq_true rfl) dX6_beginnings_4 ⟨(Nat.le_of_ble_eq_true rfl), (Nat.le_of_ble_eq_true rfl)⟩) hS (fun r F1 H locs hq hP hS => ?_)
  obtain ⟨rfl, rfl⟩ := hq
  rw [hQ]
  exact ah_iret E hr hP hS ⟨rfl, rfl⟩ (Nat.le_of_ble_eq_true rfl) (Nat.le_of_ble_eq_true rfl) dX6_beginnings_7

set_option maxHeartbeats 4000000 in
set_option maxRecDepth 100000 in
/-- length -/
theorem c_length (l : Launch) (hl1 : l.stackTraces = false) (A : Nat → Prop) (D : ah_G) (F : ah_F) {x n : Nat} {P : ah_Pt} {dr S : List Nat} {td : Int32} (hC : ah_C D F x P n dr S td) {v0 : Int32} : vx_Met l yX6_length (Cond.code yX6_length cX6_length 2 (some .int) :: ah_T) { frames := 7, cells := 1, slots := 6, locals := 104 } (va_Pc [.ref x, .int v0] (ah_B A D F)) (ah_Qi A D (fun (r : Int32) F1 => F = F1 ∧ ∃ (i : Nat) (w r0 : List Nat), ah_pi P v0 = some i ∧ P i = some (w, r0) ∧ nI w.length = r)) (ah_X A D (fun E F1 => F = F1 ∧ E = "java/util/NoSuchElementException" ∧ ah_pi P v0 = none)) 1 6 A := by
  refine ah_xmet (own := "Ahoarch") (by decide) rfl (Nat.le_of_ble_eq_true rfl) ?_
  intro p e s m below meth c ls E hr htab hl hP hS Q hQ
  have hx := E.1
  have hb := E.2.1
  have hl : lv_has ls 2 [(0, .ref x), (1, .int v0)] := hl
  obtain ⟨b, ra, st, la, ch, cp, cl, tx, ta, dw, rf, lf, pf, plf, tf, cc, tc, pr, hxx, hbk, hra, hrows, hst, hla, hstr, hch, hcp, hcl, htx, hta, hdw, hdok, hn40, hPn, hpr, hpr20⟩ := id hC
  obtain ⟨hS1, hS2, hS3⟩ := id hstr
  refine lv_aload_n hx hb dX6_length_0 rfl (lv_at hl 0 rfl) ?_
  refine lv_iload_n hx hb dX6_length_1 rfl (lv_at hl 1 rfl) ?_
  refine ah_xcallq (ah_xrunV E hP hS (As := [.int v0]) (rest := []) (b := x) (c_need l hl1 A D _ hbk hra hrows hxx (v0 := v0)) lk_Aho_86 li_Aho_86 hxx rfl ⟨rfl, rfl, (Nat.le_of_ble_eq_true rfl), (Nat.le_of_ble_eq_true rfl)⟩ rfl hl.1 rfl (Nat.le_of_ble_eq_true rfl) dX6_length_2 ⟨(Nat.le_of_ble_eq_true rfl), (Nat.le_of_ble_eq_true rfl)⟩) hS (fun E0 q9 Fx H locs hT => ?_) (fun r F1 H locs hq hP hS => ?_)
  · skip
    rw [hQ]
    exact ah_xout E htab hT (fun h => h) (Nat.le_of_ble_eq_true rfl) (Nat.le_of_ble_eq_true rfl)
  · skip
    obtain ⟨rfl, i, q, w, r0, lw, lr, rfl, hpi, hi40, hvi, hri, hPi, hqo, hlw, hlr, hok, hokr, hne⟩ := hq
    have hwl := hok.1
    refine gf_Aho_102 E hP hqo rfl dX6_length_5 ?_
    refine gf_Aho_54 E hP hlw rfl dX6_length_8 ?_
    rw [hQ]
    exact vx_ret (ah_iret E hr hP hS ⟨rfl, i, w, r0, hpi, hPi, rfl⟩ (Nat.le_of_ble_eq_true rfl) (Nat.le_of_ble_eq_true rfl) dX6_length_11)

set_option maxHeartbeats 4000000 in
set_option maxRecDepth 100000 in
/-- link -/
theorem c_link (l : Launch) (hl1 : l.stackTraces = false) (A : Nat → Prop) (D : ah_G) (F : ah_F) {x n : Nat} {P : ah_Pt} {dr S : List Nat} {td : Int32} (hC : ah_C D F x P n dr S td) {v0 : Int32} : vx_Met l yX6_link (Cond.code yX6_link cX6_link 3 (some .int) :: ah_T) { frames := 7, cells := 1, slots := 6, locals := 104 } (va_Pc [.ref x, .int v0] (ah_B A D F)) (ah_Qi A D (fun (r : Int32) F1 => F = F1 ∧ ∃ (i : Nat) (w r0 : List Nat), ah_pi P v0 = some i ∧ P i = some (w, r0) ∧ nI (ah_le P w (w.length - 1)) = r)) (ah_X A D (fun E F1 => F = F1 ∧ E = "java/util/NoSuchElementException" ∧ ah_pi P v0 = none)) 1 6 A := by
  refine ah_xmet (own := "Ahoarch") (by decide) rfl (Nat.le_of_ble_eq_true rfl) ?_
  intro p e s m below meth c ls E hr htab hl hP hS Q hQ
  have hx := E.1
  have hb := E.2.1
  have hl : lv_has ls 3 [(0, .ref x), (1, .int v0)] := hl
  obtain ⟨b, ra, st, la, ch, cp, cl, tx, ta, dw, rf, lf, pf, plf, tf, cc, tc, pr, hxx, hbk, hra, hrows, hst, hla, hstr, hch, hcp, hcl, htx, hta, hdw, hdok, hn40, hPn, hpr, hpr20⟩ := id hC
  obtain ⟨hS1, hS2, hS3⟩ := id hstr
  refine lv_aload_n hx hb dX6_link_0 rfl (lv_at hl 0 rfl) ?_
  refine lv_iload_n hx hb dX6_link_1 rfl (lv_at hl 1 rfl) ?_
  refine ah_xcallq (ah_xrunV E hP hS (As := [.int v0]) (rest := []) (b := x) (c_need l hl1 A D _ hbk hra hrows hxx (v0 := v0)) lk_Aho_86 li_Aho_86 hxx rfl ⟨rfl, rfl, (Nat.le_of_ble_eq_true rfl), (Nat.le_of_ble_eq_true rfl)⟩ rfl hl.1 rfl (Nat.le_of_ble_eq_true rfl) dX6_link_2 ⟨(Nat.le_of_ble_eq_true rfl), (Nat.le_of_ble_eq_true rfl)⟩) hS (fun E0 q9 Fx H locs hT => ?_) (fun r F1 H locs hq hP hS => ?_)
  · skip
    rw [hQ]
    exact ah_xout E htab hT (fun h => h) (Nat.le_of_ble_eq_true rfl) (Nat.le_of_ble_eq_true rfl)
  · skip
    obtain ⟨rfl, i, q, w, r0, lw, lr, rfl, hpi, hi40, hvi, hri, hPi, hqo, hlw, hlr, hok, hokr, hne⟩ := hq
    have hwl := hok.1
    refine gf_Aho_102 E hP hqo rfl dX6_link_5 ?_
    refine lv_astore_n (lv' := [(2, .ref lw), (0, .ref x), (1, .int v0)]) hx hb dX6_link_8 rfl hl (by decide) rfl (fun ls hl => ?_)
    refine lv_aload_n hx hb dX6_link_9 rfl (lv_at hl 1 rfl) ?_
    refine gf_Aho_10 E hP hxx rfl dX6_link_10 ?_
    refine lv_aload_n hx hb dX6_link_13 rfl (lv_at hl 0 rfl) ?_
    refine gf_Aho_109 E hP hlw rfl dX6_link_14 ?_
    refine lv_aload_n hx hb dX6_link_17 rfl (lv_at hl 0 rfl) ?_
    refine gf_Aho_54 E hP hlw rfl dX6_link_18 ?_
    refine lv_iconst (v := (nI 1)) hx hb dX6_link_21 (by decide) ?_
    refine ah_isub hx hb (List.length_pos_iff.mpr hne) dX6_link_22 ?_
    refine ah_calli (ah_runV E hP hS (As := [.long (lN (ah_enc w)), .int (nI (w.length - 1))]) (rest := []) (b := b) (c_Book_longestEnd l A D _ hbk hra hrows (t := w) (mo := w.length - 1) hok (by omega)) lk_Aho_113 li_Aho_113 hbk rfl ⟨rfl, rfl, (Nat.le_of_ble_eq_true rfl), (Nat.le_of_ble_eq_true rfl)⟩ rfl hl.1 rfl (Nat.le_of_ble_eq_true rfl) dX6_link_23 ⟨(Nat.le_of_ble_eq_true rfl), (Nat.le_of_ble_eq_true rfl)⟩) hS (fun r F2 H locs hq hP hS => ?_)
    obtain ⟨rfl, rfl⟩ := hq
    rw [hQ]
    exact vx_ret (ah_iret E hr hP hS ⟨rfl, i, w, r0, hpi, hPi, rfl⟩ (Nat.le_of_ble_eq_true rfl) (Nat.le_of_ble_eq_true rfl) dX6_link_26)

set_option maxHeartbeats 4000000 in
set_option maxRecDepth 100000 in
/-- occurrencesOf -/
theorem c_occurrencesOf (l : Launch) (hl1 : l.stackTraces = false) (A : Nat → Prop) (D : ah_G) (F : ah_F) {x n : Nat} {P : ah_Pt} {dr S : List Nat} {td : Int32} (hC : ah_C D F x P n dr S td) {v0 : Int32} : vx_Met l yX6_occurrencesOf (Cond.code yX6_occurrencesOf cX6_occurrencesOf 2 (some .int) :: ah_T) { frames := 7, cells := 1, slots := 6, locals := 104 } (va_Pc [.ref x, .int v0] (ah_B A D F)) (ah_Qi A D (fun (r : Int32) F1 => F = F1 ∧ ∃ (i : Nat) (w r0 : List Nat), ah_pi P v0 = some i ∧ P i = some (w, r0) ∧ nI (pu_cn (fun i => ah_at S i w) S.length) = r)) (ah_X A D (fun E F1 => F = F1 ∧ E = "java/util/NoSuchElementException" ∧ ah_pi P v0 = none)) 1 6 A := by
  refine ah_xmet (own := "Ahoarch") (by decide) rfl (Nat.le_of_ble_eq_true rfl) ?_
  intro p e s m below meth c ls E hr htab hl hP hS Q hQ
  have hx := E.1
  have hb := E.2.1
  have hl : lv_has ls 2 [(0, .ref x), (1, .int v0)] := hl
  obtain ⟨b, ra, st, la, ch, cp, cl, tx, ta, dw, rf, lf, pf, plf, tf, cc, tc, pr, hxx, hbk, hra, hrows, hst, hla, hstr, hch, hcp, hcl, htx, hta, hdw, hdok, hn40, hPn, hpr, hpr20⟩ := id hC
  obtain ⟨hS1, hS2, hS3⟩ := id hstr
  refine lv_aload_n hx hb dX6_occurrencesOf_0 rfl (lv_at hl 0 rfl) ?_
  refine gf_Aho_19 E hP hxx rfl dX6_occurrencesOf_1 ?_
  refine lv_aload_n hx hb dX6_occurrencesOf_4 rfl (lv_at hl 0 rfl) ?_
  refine lv_iload_n hx hb dX6_occurrencesOf_5 rfl (lv_at hl 1 rfl) ?_
  refine ah_xcallq (ah_xrunV E hP hS (As := [.int v0]) (rest := [.ref st]) (b := x) (c_need l hl1 A D _ hbk hra hrows hxx (v0 := v0)) lk_Aho_86 li_Aho_86 hxx rfl ⟨rfl, rfl, (Nat.le_of_ble_eq_true rfl), (Nat.le_of_ble_eq_true rfl)⟩ rfl hl.1 rfl (Nat.le_of_ble_eq_true rfl) dX6_occurrencesOf_6 ⟨(Nat.le_of_ble_eq_true rfl), (Nat.le_of_ble_eq_true rfl)⟩) hS (fun E0 q9 Fx H locs hT => ?_) (fun r F1 H locs hq hP hS => ?_)
  · skip
    rw [hQ]
    exact ah_xout E htab hT (fun h => h) (Nat.le_of_ble_eq_true rfl) (Nat.le_of_ble_eq_true rfl)
  · skip
    obtain ⟨rfl, i, q, w, r0, lw, lr, rfl, hpi, hi40, hvi, hri, hPi, hqo, hlw, hlr, hok, hokr, hne⟩ := hq
    have hwl := hok.1
    refine gf_Aho_102 E hP hqo rfl dX6_occurrencesOf_9 ?_
    refine ah_calli (ah_runV E hP hS (As := [.ref lw]) (rest := []) (b := st) (c_Stream_count l A D _ hst hla hstr hlw hok hne) lk_Aho_164 li_Aho_164 hst rfl ⟨rfl, rfl, (Nat.le_of_ble_eq_true rfl), (Nat.le_of_ble_eq_true rfl)⟩ rfl hl.1 rfl (Nat.le_of_ble_eq_true rfl) dX6_occurrencesOf_12 ⟨(Nat.le_of_ble_eq_true rfl), (Nat.le_of_ble_eq_true rfl)⟩) hS (fun r F2 H locs hq hP hS => ?_)
    obtain ⟨rfl, rfl⟩ := hq
    rw [hQ]
    exact vx_ret (ah_iret E hr hP hS ⟨rfl, i, w, r0, hpi, hPi, rfl⟩ (Nat.le_of_ble_eq_true rfl) (Nat.le_of_ble_eq_true rfl) dX6_occurrencesOf_15)

set_option maxHeartbeats 4000000 in
set_option maxRecDepth 100000 in
/-- overlap -/
theorem c_overlap (l : Launch) (hl1 : l.stackTraces = false) (A : Nat → Prop) (D : ah_G) (F : ah_F) {x n : Nat} {P : ah_Pt} {dr S : List Nat} {td : Int32} (hC : ah_C D F x P n dr S td) {v0 v1 : Int32} : vx_Met l yX6_overlap (Cond.code yX6_overlap cX6_overlap 6 (some .int) :: ah_T) { frames := 7, cells := 2, slots := 12, locals := 104 } (va_Pc [.ref x, .int v0, .int v1] (ah_B A D F)) (ah_Qi A D (fun (r : Int32) F1 => F = F1 ∧ ∃ (i : Nat) (w r0 : List Nat) (i2 : Nat) (w2 r02 : List Nat), ah_pi P v0 = some i ∧ P i = some (w, r0) ∧ ah_pi P v1 = some i2 ∧ P i2 = some (w2, r02) ∧ nI (ah_ov w w2 (min w.length w2.length - 1)) = r)) (ah_X A D (fun E F1 => F = F1 ∧ E = "java/util/NoSuchElementException" ∧ (ah_pi P v0 = none ∨ ah_pi P v1 = none))) 2 12 A := by
  refine ah_xmet (own := "Ahoarch") (by decide) rfl (Nat.le_of_ble_eq_true rfl) ?_
  intro p e s m below meth c ls E hr htab hl hP hS Q hQ
  have hx := E.1
  have hb := E.2.1
  have hl : lv_has ls 6 [(0, .ref x), (1, .int v0), (2, .int v1)] := hl
  obtain ⟨b, ra, st, la, ch, cp, cl, tx, ta, dw, rf, lf, pf, plf, tf, cc, tc, pr, hxx, hbk, hra, hrows, hst, hla, hstr, hch, hcp, hcl, htx, hta, hdw, hdok, hn40, hPn, hpr, hpr20⟩ := id hC
  obtain ⟨hS1, hS2, hS3⟩ := id hstr
  refine lv_aload_n hx hb dX6_overlap_0 rfl (lv_at hl 0 rfl) ?_
  refine lv_iload_n hx hb dX6_overlap_1 rfl (lv_at hl 1 rfl) ?_
  refine ah_xcallq (ah_xrunV E hP hS (As := [.int v0]) (rest := []) (b := x) (c_need l hl1 A D _ hbk hra hrows hxx (v0 := v0)) lk_Aho_86 li_Aho_86 hxx rfl ⟨rfl, rfl, (Nat.le_of_ble_eq_true rfl), (Nat.le_of_ble_eq_true rfl)⟩ rfl hl.1 rfl (Nat.le_of_ble_eq_true rfl) dX6_overlap_2 ⟨(Nat.le_of_ble_eq_true rfl), (Nat.le_of_ble_eq_true rfl)⟩) hS (fun E0 q9 Fx H locs hT => ?_) (fun r F1 H locs hq hP hS => ?_)
  · skip
    rw [hQ]
    exact ah_xout E htab hT (fun h => ⟨h.1, h.2.1, Or.inl h.2.2⟩) (Nat.le_of_ble_eq_true rfl) (Nat.le_of_ble_eq_true rfl)
  · skip
    obtain ⟨rfl, i, q, w, r0, lw, lr, rfl, hpi, hi40, hvi, hri, hPi, hqo, hlw, hlr, hok, hokr, hne⟩ := hq
    have hwl := hok.1
    refine gf_Aho_102 E hP hqo rfl dX6_overlap_5 ?_
    refine lv_astore_n (lv' := [(3, .ref lw), (0, .ref x), (1, .int v0), (2, .int v1)]) hx hb dX6_overlap_8 rfl hl (by decide) rfl (fun ls hl => ?_)
    refine lv_aload_n hx hb dX6_overlap_9 rfl (lv_at hl 1 rfl) ?_
    refine lv_iload_n hx hb dX6_overlap_10 rfl (lv_at hl 3 rfl) ?_
    refine ah_xcallq (ah_xrunV E hP hS (As := [.int v1]) (rest := []) (b := x) (c_need l hl1 A D _ hbk hra hrows hxx (v0 := v1)) lk_Aho_86 li_Aho_86 hxx rfl ⟨rfl, rfl, (Nat.le_of_ble_eq_true rfl), (Nat.le_of_ble_eq_true rfl)⟩ rfl hl.1 rfl (Nat.le_of_ble_eq_true rfl) dX6_overlap_11 ⟨(Nat.le_of_ble_eq_true rfl), (Nat.le_of_ble_eq_true rfl)⟩) hS (fun E0 q9 Fx H locs hT => ?_) (fun r F2 H locs hq hP hS => ?_)
    · skip
      rw [hQ]
      exact ah_xout E htab hT (fun h => ⟨h.1, h.2.1, Or.inr h.2.2⟩) (Nat.le_of_ble_eq_true rfl) (Nat.le_of_ble_eq_true rfl)
    · skip
      obtain ⟨rfl, i2, q2, w2, r02, lw2, lr2, rfl, hpi2, hi402, hvi2, hri2, hPi2, hqo2, hlw2, hlr2, hok2, hokr2, hne2⟩ := hq
      have hwl2 := hok2.1
      refine gf_Aho_102 E hP hqo2 rfl dX6_overlap_14 ?_
      refine lv_astore (lv' := [(4, .ref lw2), (3, .ref lw), (0, .ref x), (1, .int v0), (2, .int v1)]) hx hb dX6_overlap_17 hl (by decide) rfl (fun ls hl => ?_)
      refine lv_aload_n hx hb dX6_overlap_19 rfl (lv_at hl 1 rfl) ?_
      refine gf_Aho_54 E hP hlw rfl dX6_overlap_20 ?_
      refine lv_aload hx hb dX6_overlap_23 (lv_at hl 0 rfl) ?_
      refine gf_Aho_54 E hP hlw2 rfl dX6_overlap_25 ?_
      refine mi_Aho_117 E hl.1 (by omega) (by omega) (Nat.le_of_ble_eq_true rfl) (Nat.le_of_ble_eq_true rfl) (Nat.le_of_ble_eq_true rfl) (Nat.le_of_ble_eq_true rfl) dX6_overlap_28 ?_
      refine lv_iconst (v := (nI 1)) hx hb dX6_overlap_31 (by decide) ?_
      refine ah_isub hx hb (by have := List.length_pos_iff.mpr hne; have := List.length_pos_iff.mpr hne2; omega) dX6_overlap_32 ?_
      refine lv_istore (lv' := [(5, .int (nI ((min w.length w2.length) - 1))), (4, .ref lw2), (3, .ref lw), (0, .ref x), (1, .int v0), (2, .int v1)]) hx hb dX6_overlap_33 hl (by decide) rfl (fun ls hl => ?_)
      have L35 : ∀ (fuel : Nat), ∀ (c0 : Nat), c0 < fuel → c0 ≤ min w.length w2.length - 1 → ah_ov w w2 c0 = ah_ov w w2 (min w.length w2.length - 1) → ∀ (H : Heap) (locs : List Loc), ah_K A D F H → va_S A s.heap H locs → ∀ (ls : Array Slot), lv_has ls 6 [(3, .ref lw), (4, .ref lw2), (5, .int (nI c0))] → W p l e { frames := 7, cells := 2, slots := 12, locals := 104 } s m [.ref x, .int v0, .int v1].toArray below meth c H locs ((0 + 1) + 1) ((0 + 6) + 6) Q (F0 m 35 ls []) := by
        intro fuel
        induction fuel with
        | zero =>
          intro c0 hm
          exact absurd hm (Nat.not_lt_zero _)
        | succ fuel ih =>
          intro c0 hm hk ha H locs hP hS ls hl
          refine lv_iload hx hb dX6_overlap_35 (lv_at hl 2 rfl) ?_
          refine ah_if_le (tgt := 68) hx hb (by omega) dX6_overlap_37 (by decide) (fun hc37 => ?_) (fun hc37 => ?_)
          · skip
            refine lv_iconst (v := (nI 0)) hx hb dX6_overlap_68 (by decide) ?_
            rw [hQ]
            exact vx_ret (ah_iret E hr hP hS ⟨rfl, i, w, r0, i2, w2, r02, hpi, hPi, hpi2, hPi2, by rw [← ha, hc37]; rfl⟩ (Nat.le_of_ble_eq_true rfl) (Nat.le_of_ble_eq_true rfl) dX6_overlap_69)
          · skip
            refine lv_aload hx hb dX6_overlap_40 (lv_at hl 1 rfl) ?_
            refine lv_aload_n hx hb dX6_overlap_42 rfl (lv_at hl 0 rfl) ?_
            refine gf_Aho_109 E hP hlw rfl dX6_overlap_43 ?_
            refine lv_iload hx hb dX6_overlap_46 (lv_at hl 2 rfl) ?_
            refine ah_calll (ah_runS E hP hS (As := [.long (lN (ah_enc w)), .int (nI c0)]) (rest := [.ref lw2]) (c_tail l A D _ (a := ah_enc w) (k := c0) (by have := ah_enc_40 hok; omega) (by omega)) lk_Aho_123 li_Aho_123 ⟨rfl, rfl, (Nat.le_of_ble_eq_true rfl), (Nat.le_of_ble_eq_true rfl)⟩ rfl hl.1 rfl (Nat.le_of_ble_eq_true rfl) dX6_overlap_48 ⟨(Nat.le_of_ble_eq_true rfl), (Nat.le_of_ble_eq_true rfl)⟩) hS (fun r F3 H locs hq hP hS => ?_)
            obtain ⟨rfl, rfl⟩ := hq
            rw [ah_enc_mod hok.2]
            refine lv_iload hx hb dX6_overlap_51 (lv_at hl 2 rfl) ?_
            refine ah_calli (ah_runV E hP hS (As := [.long (lN (ah_enc (w.drop (w.length - c0)))), .int (nI c0)]) (rest := []) (b := lw2) (c_Word_beginsWith l A D _ (u := w.drop (w.length - c0)) (k := c0) (by rw [List.length_drop]; omega) hlw2 hok2 ⟨by rw [List.length_drop]; omega, ah_lt_drop hok.2 _⟩) lk_Aho_127 li_Aho_127 hlw2 rfl ⟨rfl, rfl, (Nat.le_of_ble_eq_true rfl), (Nat.le_of_ble_eq_true rfl)⟩ rfl hl.1 rfl (Nat.le_of_ble_eq_true rfl) dX6_overlap_53 ⟨(Nat.le_of_ble_eq_true rfl), (Nat.le_of_ble_eq_true rfl)⟩) hS (fun r F4 H locs hq hP hS => ?_)
            obtain ⟨rfl, rfl⟩ := hq
            refine ah_ifb_eq (tgt := 62) hx hb dX6_overlap_56 (by decide) (fun hc56 => ?_) (fun hc56 => ?_)
            · skip
              refine lv_iinc (v := (nI (c0 - 1))) (lv' := [(5, .int (nI (c0 - 1))), (3, .ref lw), (4, .ref lw2)]) hx hb dX6_overlap_62 hl (k := 2) rfl (ah_dec (by omega)) (by decide) rfl (fun ls hl => ?_)
              refine lv_goto (tgt := 35) hx hb dX6_overlap_65 (by decide) ?_
              exact ih _ (by omega) (by omega) (by rw [ah_ov_f hc37 hc56]; exact ha) _ _ hP hS ls (lv_sub hl [1, 2, 0] rfl)
            · skip
              refine lv_iload hx hb dX6_overlap_59 (lv_at hl 2 rfl) ?_
              rw [hQ]
              exact vx_ret (ah_iret E hr hP hS ⟨rfl, i, w, r0, i2, w2, r02, hpi, hPi, hpi2, hPi2, by rw [← ha, ah_ov_t hc37 hc56]⟩ (Nat.le_of_ble_eq_true rfl) (Nat.le_of_ble_eq_true rfl) dX6_overlap_61)
      exact L35 (min w.length w2.length) _ (by have := List.length_pos_iff.mpr hne; have := List.length_pos_iff.mpr hne2; omega) (Nat.le_refl _) rfl _ _ hP hS ls (lv_sub hl [2, 1, 0] rfl)

set_option maxHeartbeats 4000000 in
set_option maxRecDepth 100000 in
/-- occurrence -/
theorem c_occurrence (l : Launch) (hl1 : l.stackTraces = false) (A : Nat → Prop) (D : ah_G) (F : ah_F) {x n : Nat} {P : ah_Pt} {dr S : List Nat} {td : Int32} (hC : ah_C D F x P n dr S td) {v0 v1 : Int32} : vx_Met l yX6_occurrence (Cond.code yX6_occurrence cX6_occurrence 4 (some .int) :: ah_T) { frames := 7, cells := 2, slots := 12, locals := 104 } (va_Pc [.ref x, .int v0, .int v1] (ah_B A D F)) (ah_Qi A D (fun (r : Int32) F1 => F = F1 ∧ ∃ (i : Nat) (w r0 : List Nat) (k : Nat), ah_pi P v0 = some i ∧ P i = some (w, r0) ∧ ah_kt (fun i => ah_at S i w) S.length v1 = some k ∧ nI k = r)) (ah_X A D (fun E F1 => F = F1 ∧ ((E = "java/util/NoSuchElementException" ∧ ah_pi P v0 = none) ∨ (E = "java/lang/IndexOutOfBoundsException" ∧ ∃ (i : Nat) (w r0 : List Nat), ah_pi P v0 = some i ∧ P i = some (w, r0) ∧ ah_kt (fun i => ah_at S i w) S.length v1 = none)))) 2 12 A := by
  refine ah_xmet (own := "Ahoarch") (by decide) rfl (Nat.le_of_ble_eq_true rfl) ?_
  intro p e s m below meth c ls E hr htab hl hP hS Q hQ
  have hx := E.1
  have hb := E.2.1
  have hl : lv_has ls 4 [(0, .ref x), (1, .int v0), (2, .int v1)] := hl
  obtain ⟨b, ra, st, la, ch, cp, cl, tx, ta, dw, rf, lf, pf, plf, tf, cc, tc, pr, hxx, hbk, hra, hrows, hst, hla, hstr, hch, hcp, hcl, htx, hta, hdw, hdok, hn40, hPn, hpr, hpr20⟩ := id hC
  obtain ⟨hS1, hS2, hS3⟩ := id hstr
  refine lv_aload_n hx hb dX6_occurrence_0 rfl (lv_at hl 0 rfl) ?_
  refine gf_Aho_19 E hP hxx rfl dX6_occurrence_1 ?_
  refine lv_aload_n hx hb dX6_occurrence_4 rfl (lv_at hl 0 rfl) ?_
  refine lv_iload_n hx hb dX6_occurrence_5 rfl (lv_at hl 1 rfl) ?_
  refine ah_xcallq (ah_xrunV E hP hS (As := [.int v0]) (rest := [.ref st]) (b := x) (c_need l hl1 A D _ hbk hra hrows hxx (v0 := v0)) lk_Aho_86 li_Aho_86 hxx rfl ⟨rfl, rfl, (Nat.le_of_ble_eq_true rfl), (Nat.le_of_ble_eq_true rfl)⟩ rfl hl.1 rfl (Nat.le_of_ble_eq_true rfl) dX6_occurrence_6 ⟨(Nat.le_of_ble_eq_true rfl), (Nat.le_of_ble_eq_true rfl)⟩) hS (fun E0 q9 Fx H locs hT => ?_) (fun r F1 H locs hq hP hS => ?_)
  · skip
    rw [hQ]
    exact ah_xout E htab hT (fun h => ⟨h.1, Or.inl h.2⟩) (Nat.le_of_ble_eq_true rfl) (Nat.le_of_ble_eq_true rfl)
  · skip
    obtain ⟨rfl, i, q, w, r0, lw, lr, rfl, hpi, hi40, hvi, hri, hPi, hqo, hlw, hlr, hok, hokr, hne⟩ := hq
    have hwl := hok.1
    refine gf_Aho_102 E hP hqo rfl dX6_occurrence_9 ?_
    refine lv_iload_n hx hb dX6_occurrence_12 rfl (lv_at hl 2 rfl) ?_
    refine ah_calli (ah_runV E hP hS (As := [.ref lw, .int v1]) (rest := []) (b := st) (c_Stream_placeOf l A D _ hst hla hstr hlw hok hne (x := v1)) lk_Aho_167 li_Aho_167 hst rfl ⟨rfl, rfl, (Nat.le_of_ble_eq_true rfl), (Nat.le_of_ble_eq_true rfl)⟩ rfl hl.1 rfl (Nat.le_of_ble_eq_true rfl) dX6_occurrence_13 ⟨(Nat.le_of_ble_eq_true rfl), (Nat.le_of_ble_eq_true rfl)⟩) hS (fun r F2 H locs hq hP hS => ?_)
    obtain ⟨rfl, hpl⟩ := hq
    refine lv_istore_n (lv' := [(3, .int r), (0, .ref x), (1, .int v0), (2, .int v1)]) hx hb dX6_occurrence_16 rfl hl (by decide) rfl (fun ls hl => ?_)
    refine lv_iload_n hx hb dX6_occurrence_17 rfl (lv_at hl 0 rfl) ?_
    refine lv_if_ge (tgt := 31) hx hb dX6_occurrence_18 (by decide) (fun hc18 => ?_) (fun hc18 => ?_)
    · skip
      obtain ⟨k, hk1, hk2⟩ := ah_kt_ge hpl hc18
      refine lv_iload_n hx hb dX6_occurrence_31 rfl (lv_at hl 0 rfl) ?_
      rw [hQ]
      exact vx_ret (ah_iret E hr hP hS ⟨rfl, i, w, r0, k, hpi, hPi, hk1, hk2⟩ (Nat.le_of_ble_eq_true rfl) (Nat.le_of_ble_eq_true rfl) dX6_occurrence_32)
    · skip
      have hkn := ah_kt_lt hpl (by omega) hc18
      rw [hQ]
      exact ah_throw (text := "there is no such occurrence") (px := (fun E F1 => F = F1 ∧ ((E = "java/util/NoSuchElementException" ∧ ah_pi P v0 = none) ∨ (E = "java/lang/IndexOutOfBoundsException" ∧ ∃ (i : Nat) (w r0 : List Nat), ah_pi P v0 = some i ∧ P i = some (w, r0) ∧ ah_kt (fun i => ah_at S i w) S.length v1 = none)))) hl1 E htab hP hS hl.1 tw_iob (by simp [ah_Strs]) dX6_occurrence_21 dX6_occurrence_24 dX6_occurrence_25 dX6_occurrence_27 dX6_occurrence_30 (Nat.le_of_ble_eq_true rfl) (Nat.le_of_ble_eq_true rfl) (Nat.le_of_ble_eq_true rfl) (Nat.le_of_ble_eq_true rfl) (Nat.le_of_ble_eq_true rfl) (Nat.le_of_ble_eq_true rfl) ⟨rfl, Or.inr ⟨rfl, i, w, r0, hpi, hPi, hkn⟩⟩

set_option maxHeartbeats 4000000 in
set_option maxRecDepth 100000 in
/-- endingPattern -/
theorem c_endingPattern (l : Launch) (hl1 : l.stackTraces = false) (A : Nat → Prop) (D : ah_G) (F : ah_F) {x n : Nat} {P : ah_Pt} {dr S : List Nat} {td : Int32} (hC : ah_C D F x P n dr S td) {v0 : Int32} : vx_Met l yX6_endingPattern (Cond.code yX6_endingPattern cX6_endingPattern 3 (some .int) :: ah_T) { frames := 6, cells := 1, slots := 6, locals := 95 } (va_Pc [.ref x, .int v0] (ah_B A D F)) (ah_Qi A D (fun (r : Int32) F1 => F = F1 ∧ ∃ i : Nat, ah_ep P S v0 = some i ∧ nI i = r)) (ah_X A D (fun E F1 => F = F1 ∧ E = "java/lang/IndexOutOfBoundsException" ∧ ah_ep P S v0 = none)) 1 6 A := by
  refine ah_xmet (own := "Ahoarch") (by decide) rfl (Nat.le_of_ble_eq_true rfl) ?_
  intro p e s m below meth c ls E hr htab hl hP hS Q hQ
  have hx := E.1
  have hb := E.2.1
  have hl : lv_has ls 3 [(0, .ref x), (1, .int v0)] := hl
  obtain ⟨b, ra, st, la, ch, cp, cl, tx, ta, dw, rf, lf, pf, plf, tf, cc, tc, pr, hxx, hbk, hra, hrows, hst, hla, hstr, hch, hcp, hcl, htx, hta, hdw, hdok, hn40, hPn, hpr, hpr20⟩ := id hC
  obtain ⟨hS1, hS2, hS3⟩ := id hstr
  refine lv_aload_n hx hb dX6_endingPattern_0 rfl (lv_at hl 0 rfl) ?_
  refine gf_Aho_10 E hP hxx rfl dX6_endingPattern_1 ?_
  refine lv_aload_n hx hb dX6_endingPattern_4 rfl (lv_at hl 0 rfl) ?_
  refine gf_Aho_19 E hP hxx rfl dX6_endingPattern_5 ?_
  refine lv_iload_n hx hb dX6_endingPattern_8 rfl (lv_at hl 1 rfl) ?_
  refine ah_callq (ah_runV E hP hS (As := [.ref st, .int v0]) (rest := []) (b := b) (c_Book_endingAt l A D _ hbk hra hrows hst hla hstr (x := v0)) lk_Aho_152 li_Aho_152 hbk rfl ⟨rfl, rfl, (Nat.le_of_ble_eq_true rfl), (Nat.le_of_ble_eq_true rfl)⟩ rfl hl.1 rfl (Nat.le_of_ble_eq_true rfl) dX6_endingPattern_9 ⟨(Nat.le_of_ble_eq_true rfl), (Nat.le_of_ble_eq_true rfl)⟩) hS (fun r F1 H locs hq hP hS => ?_)
  obtain ⟨rfl, rfl⟩ := hq
  cases hq : (ah_kt (fun j => (ah_es P S (8 - j)).isSome) 8 v0).bind (fun j => (ah_es P S (8 - j)).bind rf) with
  | none =>
    refine lv_astore_nN (lv' := [(2, .null), (0, .ref x), (1, .int v0)]) hx hb dX6_endingPattern_12 rfl hl (by decide) rfl (fun ls hl => ?_)
    refine lv_aload_nN hx hb dX6_endingPattern_13 rfl (lv_at hl 0 rfl) ?_
    refine lv_ifnonnullN hx hb dX6_endingPattern_14 ?_
    rw [hQ]
    exact ah_throw (text := "there is no such occurrence") (px := (fun E F1 => F = F1 ∧ E = "java/lang/IndexOutOfBoundsException" ∧ ah_ep P S v0 = none)) hl1 E htab hP hS hl.1 tw_iob (by simp [ah_Strs]) dX6_endingPattern_17 dX6_endingPattern_20 dX6_endingPattern_21 dX6_endingPattern_23 dX6_endingPattern_26 (Nat.le_of_ble_eq_true rfl) (Nat.le_of_ble_eq_true rfl) (Nat.le_of_ble_eq_true rfl) (Nat.le_of_ble_eq_true rfl) (Nat.le_of_ble_eq_true rfl) (Nat.le_of_ble_eq_true rfl) ⟨rfl, rfl, ah_ep_n hrows hq⟩
  | some q =>
    obtain ⟨i, lw, lr, hep, hqo⟩ := ah_ep_s hrows hq
    refine lv_astore_n (lv' := [(2, .ref q), (0, .ref x), (1, .int v0)]) hx hb dX6_endingPattern_12 rfl hl (by decide) rfl (fun ls hl => ?_)
    refine lv_aload_n hx hb dX6_endingPattern_13 rfl (lv_at hl 0 rfl) ?_
    refine lv_ifnonnull (tgt := 27) hx hb dX6_endingPattern_14 (by decide) ?_
    refine lv_aload_n hx hb dX6_endingPattern_27 rfl (lv_at hl 0 rfl) ?_
    refine gf_Aho_161 E hP hqo rfl dX6_endingPattern_28 ?_
    rw [hQ]
    exact vx_ret (ah_iret E hr hP hS ⟨rfl, i, hep, rfl⟩ (Nat.le_of_ble_eq_true rfl) (Nat.le_of_ble_eq_true rfl) dX6_endingPattern_31)

set_option maxHeartbeats 4000000 in
set_option maxRecDepth 100000 in
/-- occurrences -/
theorem c_occurrences (l : Launch) (A : Nat → Prop) (D : ah_G) (F : ah_F) {x n : Nat} {P : ah_Pt} {dr S : List Nat} {td : Int32} (hC : ah_C D F x P n dr S td)  : Met l yX6_occurrences (Cond.code yX6_occurrences cX6_occurrences 3 (some .int) :: ah_T) { frames := 3, cells := 0, slots := 0, locals := 71 } (va_Pc [.ref x] (ah_B A D F)) (ah_Qi A D (fun (r : Int32) F1 => F = F1 ∧ nI (ah_oc P S S.length) = r)) 0 0 A := by
  refine ah_met (own := "Ahoarch") (by decide) rfl (Nat.le_of_ble_eq_true rfl) ?_
  intro p e s m below meth c ls E hr hini hl hP hS Q hQ
  have hx := E.1
  have hb := E.2.1
  have hl : lv_has ls 3 [(0, .ref x)] := hl
  obtain ⟨b, ra, st, la, ch, cp, cl, tx, ta, dw, rf, lf, pf, plf, tf, cc, tc, pr, hxx, hbk, hra, hrows, hst, hla, hstr, hch, hcp, hcl, htx, hta, hdw, hdok, hn40, hPn, hpr, hpr20⟩ := id hC
  obtain ⟨hS1, hS2, hS3⟩ := id hstr
  refine lv_iconst (v := (nI 0)) hx hb dX6_occurrences_0 (by decide) ?_
  refine lv_istore_n (lv' := [(1, .int (nI 0)), (0, .ref x)]) hx hb dX6_occurrences_1 rfl hl (by decide) rfl (fun ls hl => ?_)
  refine lv_iconst (v := (nI 1)) hx hb dX6_occurrences_2 (by decide) ?_
  refine lv_istore_n (lv' := [(2, .int (nI 1)), (1, .int (nI 0)), (0, .ref x)]) hx hb dX6_occurrences_3 rfl hl (by decide) rfl (fun ls hl => ?_)
  have L4 : ∀ (fuel : Nat), ∀ (k a : Nat), S.length - k < fuel → k ≤ S.length → a = ah_oc P S k → ∀ (H : Heap) (locs : List Loc), ah_K A D F H → va_S A s.heap H locs → ∀ (ls : Array Slot), lv_has ls 3 [(0, .ref x), (1, .int (nI a)), (2, .int (nI (k + 1)))] → W p l e { frames := 3, cells := 0, slots := 0, locals := 71 } s m [.ref x].toArray below meth c H locs 0 0 Q (F0 m 4 ls []) := by
    intro fuel
    induction fuel with
    | zero =>
      intro k a hm
      exact absurd hm (Nat.not_lt_zero _)
    | succ fuel ih =>
      intro k a hm hk ha H locs hP hS ls hl
      have hb2 := ah_oc_le P S k
      refine lv_iload_n hx hb dX6_occurrences_4 rfl (lv_at hl 2 rfl) ?_
      refine lv_aload_n hx hb dX6_occurrences_5 rfl (lv_at hl 0 rfl) ?_
      refine gf_Aho_19 E hP hxx rfl dX6_occurrences_6 ?_
      refine gf_Aho_143 E hP hst rfl dX6_occurrences_9 ?_
      refine ah_icmp_gt (tgt := 36) hx hb (by omega) (by omega) dX6_occurrences_12 (by decide) (fun hc12 => ?_) (fun hc12 => ?_)
      · skip
        refine lv_iload_n hx hb dX6_occurrences_36 rfl (lv_at hl 1 rfl) ?_
        rw [hQ]
        exact ah_iret E hr hP hS ⟨rfl, by rw [ha, show k = S.length by omega]⟩ (Nat.le_of_ble_eq_true rfl) (Nat.le_of_ble_eq_true rfl) dX6_occurrences_37
      · skip
        refine lv_iload_n hx hb dX6_occurrences_15 rfl (lv_at hl 1 rfl) ?_
        refine lv_aload_n hx hb dX6_occurrences_16 rfl (lv_at hl 0 rfl) ?_
        refine gf_Aho_10 E hP hxx rfl dX6_occurrences_17 ?_
        refine lv_aload_n hx hb dX6_occurrences_20 rfl (lv_at hl 0 rfl) ?_
        refine gf_Aho_19 E hP hxx rfl dX6_occurrences_21 ?_
        refine lv_iload_n hx hb dX6_occurrences_24 rfl (lv_at hl 2 rfl) ?_
        refine ah_calli (ah_runV E hP hS (As := [.ref st, .int (nI (k + 1))]) (rest := [.int (nI a)]) (b := b) (c_Book_countBefore l A D _ hbk hra hrows hst hla hstr (e0 := k + 1) (by omega)) lk_Aho_148 li_Aho_148 hbk rfl ⟨rfl, rfl, (Nat.le_of_ble_eq_true rfl), (Nat.le_of_ble_eq_true rfl)⟩ rfl hl.1 rfl (Nat.le_of_ble_eq_true rfl) dX6_occurrences_25 ⟨(Nat.le_of_ble_eq_true rfl), (Nat.le_of_ble_eq_true rfl)⟩) hS (fun r F1 H locs hq hP hS => ?_)
        obtain ⟨rfl, rfl⟩ := hq
        refine ah_iadd hx hb dX6_occurrences_28 ?_
        refine lv_istore_n (lv' := [(1, .int (nI (a + (pu_cn (ah_sat P (fun w => ah_en S (k + 1) w)) 40)))), (0, .ref x), (2, .int (nI (k + 1)))]) hx hb dX6_occurrences_29 rfl hl (by decide) rfl (fun ls hl => ?_)
        refine lv_iinc (v := (nI ((k + 1) + 1))) (lv' := [(2, .int (nI ((k + 1) + 1))), (1, .int (nI (a + (pu_cn (ah_sat P (fun w => ah_en S (k + 1) w)) 40)))), (0, .ref x)]) hx hb dX6_occurrences_30 hl (k := 2) rfl (ah_inc _) (by decide) rfl (fun ls hl => ?_)
        refine lv_goto (tgt := 4) hx hb dX6_occurrences_33 (by decide) ?_
        exact ih (k + 1) _ (by omega) (by omega) (by rw [ah_oc, ha]) _ _ hP hS ls (lv_sub hl [2, 1, 0] rfl)
  exact L4 (S.length + 1) 0 0 (by omega) (by omega) rfl _ _ hP hS ls (lv_sub hl [2, 1, 0] rfl)

set_option maxHeartbeats 4000000 in
set_option maxRecDepth 100000 in
/-- covered -/
theorem c_covered (l : Launch) (A : Nat → Prop) (D : ah_G) (F : ah_F) {x n : Nat} {P : ah_Pt} {dr S : List Nat} {td : Int32} (hC : ah_C D F x P n dr S td)  : Met l yX6_covered (Cond.code yX6_covered cX6_covered 5 (some .int) :: ah_T) { frames := 3, cells := 0, slots := 0, locals := 71 } (va_Pc [.ref x] (ah_B A D F)) (ah_Qi A D (fun (r : Int32) F1 => F = F1 ∧ nI (ah_cv P S S.length).2 = r)) 0 0 A := by
  refine ah_met (own := "Ahoarch") (by decide) rfl (Nat.le_of_ble_eq_true rfl) ?_
  intro p e s m below meth c ls E hr hini hl hP hS Q hQ
  have hx := E.1
  have hb := E.2.1
  have hl : lv_has ls 5 [(0, .ref x)] := hl
  obtain ⟨b, ra, st, la, ch, cp, cl, tx, ta, dw, rf, lf, pf, plf, tf, cc, tc, pr, hxx, hbk, hra, hrows, hst, hla, hstr, hch, hcp, hcl, htx, hta, hdw, hdok, hn40, hPn, hpr, hpr20⟩ := id hC
  obtain ⟨hS1, hS2, hS3⟩ := id hstr
  refine lv_iconst (v := (nI 0)) hx hb dX6_covered_0 (by decide) ?_
  refine lv_istore_n (lv' := [(1, .int (nI 0)), (0, .ref x)]) hx hb dX6_covered_1 rfl hl (by decide) rfl (fun ls hl => ?_)
  refine lv_iconst (v := (nI 0)) hx hb dX6_covered_2 (by decide) ?_
  refine lv_istore_n (lv' := [(2, .int (nI 0)), (1, .int (nI 0)), (0, .ref x)]) hx hb dX6_covered_3 rfl hl (by decide) rfl (fun ls hl => ?_)
  refine lv_iconst (v := (nI 0)) hx hb dX6_covered_4 (by decide) ?_
  refine lv_istore_n (lv' := [(3, .int (nI 0)), (2, .int (nI 0)), (1, .int (nI 0)), (0, .ref x)]) hx hb dX6_covered_5 rfl hl (by decide) rfl (fun ls hl => ?_)
  have L6 : ∀ (fuel : Nat), ∀ (k rc a : Nat), S.length - k < fuel → k ≤ S.length → ah_cv P S k = (rc, a) → rc ≤ S.length + 8 → a ≤ k → ∀ (H : Heap) (locs : List Loc), ah_K A D F H → va_S A s.heap H locs → ∀ (ls : Array Slot), lv_has ls 5 [(0, .ref x), (1, .int (nI a)), (2, .int (nI rc)), (3, .int (nI k))] → W p l e { frames := 3, cells := 0, slots := 0, locals := 71 } s m [.ref x].toArray below meth c H locs 0 0 Q (F0 m 6 ls []) := by
    intro fuel
    induction fuel with
    | zero =>
      intro k rc a hm
      exact absurd hm (Nat.not_lt_zero _)
    | succ fuel ih =>
      intro k rc a hm hk ha hrc hak H locs hP hS ls hl
      refine lv_iload_n hx hb dX6_covered_6 rfl (lv_at hl 3 rfl) ?_
      refine lv_aload_n hx hb dX6_covered_7 rfl (lv_at hl 0 rfl) ?_
      refine gf_Aho_19 E hP hxx rfl dX6_covered_8 ?_
      refine gf_Aho_143 E hP hst rfl dX6_covered_11 ?_
      refine ah_icmp_ge (tgt := 65) hx hb (by omega) (by omega) dX6_covered_14 (by decide) (fun hc14 => ?_) (fun hc14 => ?_)
      · skip
        refine lv_iload_n hx hb dX6_covered_65 rfl (lv_at hl 1 rfl) ?_
        rw [hQ]
        exact ah_iret E hr hP hS ⟨rfl, by rw [← show k = S.length by omega, ha]⟩ (Nat.le_of_ble_eq_true rfl) (Nat.le_of_ble_eq_true rfl) dX6_covered_66
      · skip
        refine lv_aload_n hx hb dX6_covered_17 rfl (lv_at hl 0 rfl) ?_
        refine gf_Aho_10 E hP hxx rfl dX6_covered_18 ?_
        refine lv_aload_n hx hb dX6_covered_21 rfl (lv_at hl 0 rfl) ?_
        refine gf_Aho_19 E hP hxx rfl dX6_covered_22 ?_
        refine lv_iload_n hx hb dX6_covered_25 rfl (lv_at hl 3 rfl) ?_
        refine ah_callq (ah_runV E hP hS (As := [.ref st, .int (nI k)]) (rest := []) (b := b) (c_Book_longestAt l A D _ hbk hra hrows hst hla hstr (i := k) (by omega)) lk_Aho_171 li_Aho_171 hbk rfl ⟨rfl, rfl, (Nat.le_of_ble_eq_true rfl), (Nat.le_of_ble_eq_true rfl)⟩ rfl hl.1 rfl (Nat.le_of_ble_eq_true rfl) dX6_covered_26 ⟨(Nat.le_of_ble_eq_true rfl), (Nat.le_of_ble_eq_true rfl)⟩) hS (fun r F1 H locs hq hP hS => ?_)
        obtain ⟨rfl, rfl⟩ := hq
        cases hq : (ah_best P (fun w => ah_at S k w) 40).bind rf with
        | none =>
          have hnx : ah_n0 P S k = none := ah_best_bn hrows (Nat.le_refl _) hq.symm
          refine lv_astoreN (lv' := [(4, .null), (0, .ref x), (1, .int (nI a)), (2, .int (nI rc)), (3, .int (nI k))]) hx hb dX6_covered_29 hl (by decide) rfl (fun ls hl => ?_)
          refine lv_aloadN hx hb dX6_covered_31 (lv_at hl 0 rfl) ?_
          refine lv_ifnullN (tgt := 51) hx hb dX6_covered_33 (by decide) ?_
          refine lv_iload_n hx hb dX6_covered_51 rfl (lv_at hl 4 rfl) ?_
          refine lv_iload_n hx hb dX6_covered_52 rfl (lv_at hl 3 rfl) ?_
          refine ah_icmp_ge (tgt := 59) hx hb (by omega) (by omega) dX6_covered_53 (by decide) (fun hc53 => ?_) (fun hc53 => ?_)
          · skip
            refine lv_iinc (v := (nI (k + 1))) (lv' := [(3, .int (nI (k + 1))), (4, .null), (0, .ref x), (1, .int (nI a)), (2, .int (nI rc))]) hx hb dX6_covered_59 hl (k := 4) rfl (ah_inc _) (by decide) rfl (fun ls hl => ?_)
            refine lv_goto (tgt := 6) hx hb dX6_covered_62 (by decide) ?_
            exact ih _ rc _ (by omega) (by omega) (ah_cv_f ha (by rw [ah_cvr, hnx]) hc53) (by omega) (by omega) _ _ hP hS ls (lv_sub hl [2, 3, 4, 0] rfl)
          · skip
            refine lv_iinc (v := (nI (a + 1))) (lv' := [(1, .int (nI (a + 1))), (4, .null), (0, .ref x), (2, .int (nI rc)), (3, .int (nI k))]) hx hb dX6_covered_56 hl (k := 2) rfl (ah_inc _) (by decide) rfl (fun ls hl => ?_)
            refine lv_iinc (v := (nI (k + 1))) (lv' := [(3, .int (nI (k + 1))), (1, .int (nI (a + 1))), (4, .null), (0, .ref x), (2, .int (nI rc))]) hx hb dX6_covered_59 hl (k := 4) rfl (ah_inc _) (by decide) rfl (fun ls hl => ?_)
            refine lv_goto (tgt := 6) hx hb dX6_covered_62 (by decide) ?_
            exact ih _ rc _ (by omega) (by omega) (ah_cv_t ha (by rw [ah_cvr, hnx]) hc53) (by omega) (by omega) _ _ hP hS ls (lv_sub hl [3, 1, 4, 0] rfl)
        | some q =>
          obtain ⟨j, w, r, lw, lr, hnx, hj, hrj, hPj, hqo, hlw, hlr, hok, hokr, hne, hfw⟩ := ah_best_bs2 hrows hq.symm
          have hnx : ah_n0 P S k = some j := hnx
          have hwl := hok.1
          have hrl := hokr.1
          refine lv_astore (lv' := [(4, .ref q), (0, .ref x), (1, .int (nI a)), (2, .int (nI rc)), (3, .int (nI k))]) hx hb dX6_covered_29 hl (by decide) rfl (fun ls hl => ?_)
          refine lv_aload hx hb dX6_covered_31 (lv_at hl 0 rfl) ?_
          refine lv_ifnull hx hb dX6_covered_33 ?_
          refine lv_iload_n hx hb dX6_covered_36 rfl (lv_at hl 3 rfl) ?_
          refine lv_iload_n hx hb dX6_covered_37 rfl (lv_at hl 4 rfl) ?_
          refine lv_aload hx hb dX6_covered_38 (lv_at hl 0 rfl) ?_
          refine gf_Aho_102 E hP hqo rfl dX6_covered_40 ?_
          refine gf_Aho_54 E hP hlw rfl dX6_covered_43 ?_
          refine ah_iadd hx hb dX6_covered_46 ?_
          refine ma_Aho_174 E hl.1 (by omega) (by omega) (Nat.le_of_ble_eq_true rfl) (Nat.le_of_ble_eq_true rfl) (Nat.le_of_ble_eq_true rfl) (Nat.le_of_ble_eq_true rfl) dX6_covered_47 ?_
          refine lv_istore_n (lv' := [(2, .int (nI (max rc (k + w.length)))), (4, .ref q), (0, .ref x), (1, .int (nI a)), (3, .int (nI k))]) hx hb dX6_covered_50 rfl hl (by decide) rfl (fun ls hl => ?_)
          refine lv_iload_n hx hb dX6_covered_51 rfl (lv_at hl 4 rfl) ?_
          refine lv_iload_n hx hb dX6_covered_52 rfl (lv_at hl 0 rfl) ?_
          refine ah_icmp_ge (tgt := 59) hx hb (by omega) (by omega) dX6_covered_53 (by decide) (fun hc53 => ?_) (fun hc53 => ?_)
          · skip
            refine lv_iinc (v := (nI (k + 1))) (lv' := [(3, .int (nI (k + 1))), (2, .int (nI (max rc (k + w.length)))), (4, .ref q), (0, .ref x), (1, .int (nI a))]) hx hb dX6_covered_59 hl (k := 4) rfl (ah_inc _) (by decide) rfl (fun ls hl => ?_)
            refine lv_goto (tgt := 6) hx hb dX6_covered_62 (by decide) ?_
            exact ih _ (max rc (k + w.length)) _ (by omega) (by omega) (ah_cv_f ha (by rw [ah_cvr, hnx]; simp only; rw [ah_w_s hPj]) hc53) (by omega) (by omega) _ _ hP hS ls (lv_sub hl [3, 4, 1, 0] rfl)
          · skip
            refine lv_iinc (v := (nI (a + 1))) (lv' := [(1, .int (nI (a + 1))), (2, .int (nI (max rc (k + w.length)))), (4, .ref q), (0, .ref x), (3, .int (nI k))]) hx hb dX6_covered_56 hl (k := 3) rfl (ah_inc _) (by decide) rfl (fun ls hl => ?_)
            refine lv_iinc (v := (nI (k + 1))) (lv' := [(3, .int (nI (k + 1))), (1, .int (nI (a + 1))), (2, .int (nI (max rc (k + w.length)))), (4, .ref q), (0, .ref x)]) hx hb dX6_covered_59 hl (k := 4) rfl (ah_inc _) (by decide) rfl (fun ls hl => ?_)
            refine lv_goto (tgt := 6) hx hb dX6_covered_62 (by decide) ?_
            exact ih _ (max rc (k + w.length)) _ (by omega) (by omega) (ah_cv_t ha (by rw [ah_cvr, hnx]; simp only; rw [ah_w_s hPj]) hc53) (by omega) (by omega) _ _ hP hS ls (lv_sub hl [4, 1, 2, 0] rfl)
  exact L6 (S.length + 1) 0 0 0 (by omega) (by omega) rfl (by omega) (Nat.le_refl _) _ _ hP hS ls (lv_sub hl [3, 2, 1, 0] rfl)

set_option maxHeartbeats 4000000 in
set_option maxRecDepth 100000 in
/-- mayGrowFrom -/
theorem c_mayGrowFrom (l : Launch) (A : Nat → Prop) (D : ah_G) (F : ah_F) {x n : Nat} {P : ah_Pt} {dr S : List Nat} {td : Int32} (hC : ah_C D F x P n dr S td) {k : Nat} (hk : k < S.length) : Met l yX6_mayGrowFrom (Cond.code yX6_mayGrowFrom cX6_mayGrowFrom 3 (some .boolean) :: ah_T) { frames := 2, cells := 0, slots := 0, locals := 51 } (va_Pc [.ref x, .int (nI k)] (ah_B A D F)) (ah_Qi A D (fun (r : Int32) F1 => F = F1 ∧ bI_ (ah_gr P S k) = r)) 0 0 A := by
  refine ah_met (own := "Ahoarch") (by decide) rfl (Nat.le_of_ble_eq_true rfl) ?_
  intro p e s m below meth c ls E hr hini hl hP hS Q hQ
  have hx := E.1
  have hb := E.2.1
  have hl : lv_has ls 3 [(0, .ref x), (1, .int (nI k))] := hl
  obtain ⟨b, ra, st, la, ch, cp, cl, tx, ta, dw, rf, lf, pf, plf, tf, cc, tc, pr, hxx, hbk, hra, hrows, hst, hla, hstr, hch, hcp, hcl, htx, hta, hdw, hdok, hn40, hPn, hpr, hpr20⟩ := id hC
  obtain ⟨hS1, hS2, hS3⟩ := id hstr
  refine lv_aload_n hx hb dX6_mayGrowFrom_0 rfl (lv_at hl 0 rfl) ?_
  refine gf_Aho_19 E hP hxx rfl dX6_mayGrowFrom_1 ?_
  refine gf_Aho_143 E hP hst rfl dX6_mayGrowFrom_4 ?_
  refine lv_iload_n hx hb dX6_mayGrowFrom_7 rfl (lv_at hl 1 rfl) ?_
  refine ah_isub hx hb (by omega) dX6_mayGrowFrom_8 ?_
  refine lv_istore_n (lv' := [(2, .int (nI (S.length - k))), (0, .ref x), (1, .int (nI k))]) hx hb dX6_mayGrowFrom_9 rfl hl (by decide) rfl (fun ls hl => ?_)
  refine lv_iload_n hx hb dX6_mayGrowFrom_10 rfl (lv_at hl 0 rfl) ?_
  refine ah_if_le (tgt := 56) hx hb (by omega) dX6_mayGrowFrom_11 (by decide) (fun hc11 => ?_) (fun hc11 => ?_)
  · skip
    exact absurd hc11 (by omega)
  · skip
    refine lv_iload_n hx hb dX6_mayGrowFrom_14 rfl (lv_at hl 0 rfl) ?_
    refine lv_bipush (v := (nI 8)) hx hb dX6_mayGrowFrom_15 (by decide) ?_
    refine ah_icmp_ge (tgt := 56) hx hb (by omega) (by omega) dX6_mayGrowFrom_17 (by decide) (fun hc17 => ?_) (fun hc17 => ?_)
    · skip
      refine lv_iconst (v := (nI 0)) hx hb dX6_mayGrowFrom_56 (by decide) ?_
      rw [hQ]
      exact ah_zret E hr (by first | exact bI_nz _ | decide) hP hS ⟨rfl, by rw [show ah_gr P S k = false from ah_any_none (fun i w r hi hp => by obtain ⟨q, hq⟩ := hrows.a hi hp; obtain ⟨w2, r2, lw, lr, hp2, -, -, -, hok2, -⟩ := hrows.s hi hq; rw [hp] at hp2; cases hp2; have := hok2.1; simp; omega)]; rfl⟩ (Nat.le_of_ble_eq_true rfl) (Nat.le_of_ble_eq_true rfl) dX6_mayGrowFrom_57
    · skip
      refine lv_aload_n hx hb dX6_mayGrowFrom_20 rfl (lv_at hl 1 rfl) ?_
      refine gf_Aho_10 E hP hxx rfl dX6_mayGrowFrom_21 ?_
      refine lv_aload_n hx hb dX6_mayGrowFrom_24 rfl (lv_at hl 1 rfl) ?_
      refine gf_Aho_19 E hP hxx rfl dX6_mayGrowFrom_25 ?_
      refine lv_aload_n hx hb dX6_mayGrowFrom_28 rfl (lv_at hl 1 rfl) ?_
      refine gf_Aho_19 E hP hxx rfl dX6_mayGrowFrom_29 ?_
      refine gf_Aho_143 E hP hst rfl dX6_mayGrowFrom_32 ?_
      refine ah_calll (ah_runV E hP hS (As := [.int (nI S.length)]) (rest := [.ref b]) (b := st) (c_Stream_lastsBefore l A D _ hst hla hstr (k := S.length) (by omega)) lk_Aho_144 li_Aho_144 hst rfl ⟨rfl, rfl, (Nat.le_of_ble_eq_true rfl), (Nat.le_of_ble_eq_true rfl)⟩ rfl hl.1 rfl (Nat.le_of_ble_eq_true rfl) dX6_mayGrowFrom_35 ⟨(Nat.le_of_ble_eq_true rfl), (Nat.le_of_ble_eq_true rfl)⟩) hS (fun r F1 H locs hq hP hS => ?_)
      obtain ⟨rfl, rfl⟩ := hq
      rw [ah_lb_all]
      refine lv_iload_n hx hb dX6_mayGrowFrom_38 rfl (lv_at hl 0 rfl) ?_
      refine ah_calll (ah_runS E hP hS (As := [.long (lN (ah_enc (ah_l8 S))), .int (nI (S.length - k))]) (rest := [.ref b]) (c_tail l A D _ (a := ah_enc (ah_l8 S)) (k := S.length - k) (by have := ah_enc_40 (ah_l8_ok hS2); omega) (by omega)) lk_Aho_123 li_Aho_123 ⟨rfl, rfl, (Nat.le_of_ble_eq_true rfl), (Nat.le_of_ble_eq_true rfl)⟩ rfl hl.1 rfl (Nat.le_of_ble_eq_true rfl) dX6_mayGrowFrom_39 ⟨(Nat.le_of_ble_eq_true rfl), (Nat.le_of_ble_eq_true rfl)⟩) hS (fun r F2 H locs hq hP hS => ?_)
      obtain ⟨rfl, rfl⟩ := hq
      rw [ah_l8_mod hS2 (by omega), show S.length - (S.length - k) = k by omega]
      refine lv_iload_n hx hb dX6_mayGrowFrom_42 rfl (lv_at hl 0 rfl) ?_
      refine lv_iload_n hx hb dX6_mayGrowFrom_43 rfl (lv_at hl 0 rfl) ?_
      refine lv_iconst (v := (nI 1)) hx hb dX6_mayGrowFrom_44 (by decide) ?_
      refine ah_iadd hx hb dX6_mayGrowFrom_45 ?_
      refine ah_calli (ah_runV E hP hS (As := [.long (lN (ah_enc (S.drop k))), .int (nI (S.length - k)), .int (nI ((S.length - k) + 1))]) (rest := []) (b := b) (c_Book_hasBeginning l A D _ hbk hra hrows (u := S.drop k) (c0 := S.length - k) (m0 := S.length - k + 1) ⟨by rw [List.length_drop]; omega, ah_lt_drop hS2 _⟩ (by rw [List.length_drop]) (by omega)) lk_Aho_235 li_Aho_235 hbk rfl ⟨rfl, rfl, (Nat.le_of_ble_eq_true rfl), (Nat.le_of_ble_eq_true rfl)⟩ rfl hl.1 rfl (Nat.le_of_ble_eq_true rfl) dX6_mayGrowFrom_46 ⟨(Nat.le_of_ble_eq_true rfl), (Nat.le_of_ble_eq_true rfl)⟩) hS (fun r F3 H locs hq hP hS => ?_)
      obtain ⟨rfl, rfl⟩ := hq
      refine ah_ifb_eq (tgt := 56) hx hb dX6_mayGrowFrom_49 (by decide) (fun hc49 => ?_) (fun hc49 => ?_)
      · skip
        refine lv_iconst (v := (nI 0)) hx hb dX6_mayGrowFrom_56 (by decide) ?_
        rw [hQ]
        exact ah_zret E hr (by first | exact bI_nz _ | decide) hP hS ⟨rfl, by rw [ah_gr, hc49]; rfl⟩ (Nat.le_of_ble_eq_true rfl) (Nat.le_of_ble_eq_true rfl) dX6_mayGrowFrom_57
      · skip
        refine lv_iconst (v := (nI 1)) hx hb dX6_mayGrowFrom_52 (by decide) ?_
        refine lv_goto (tgt := 57) hx hb dX6_mayGrowFrom_53 (by decide) ?_
        rw [hQ]
        exact ah_zret E hr (by first | exact bI_nz _ | decide) hP hS ⟨rfl, by rw [ah_gr, hc49]; rfl⟩ (Nat.le_of_ble_eq_true rfl) (Nat.le_of_ble_eq_true rfl) dX6_mayGrowFrom_57

set_option maxHeartbeats 4000000 in
set_option maxRecDepth 100000 in
/-- certain -/
theorem c_certain (l : Launch) (A : Nat → Prop) (D : ah_G) (F : ah_F) {x n : Nat} {P : ah_Pt} {dr S : List Nat} {td : Int32} (hC : ah_C D F x P n dr S td)  : Met l yX6_certain (Cond.code yX6_certain cX6_certain 5 (some .int) :: ah_T) { frames := 3, cells := 0, slots := 0, locals := 73 } (va_Pc [.ref x] (ah_B A D F)) (ah_Qi A D (fun (r : Int32) F1 => F = F1 ∧ nI (ah_ct P S S.length).2.1 = r)) 0 0 A := by
  refine ah_met (own := "Ahoarch") (by decide) rfl (Nat.le_of_ble_eq_true rfl) ?_
  intro p e s m below meth c ls E hr hini hl hP hS Q hQ
  have hx := E.1
  have hb := E.2.1
  have hl : lv_has ls 5 [(0, .ref x)] := hl
  obtain ⟨b, ra, st, la, ch, cp, cl, tx, ta, dw, rf, lf, pf, plf, tf, cc, tc, pr, hxx, hbk, hra, hrows, hst, hla, hstr, hch, hcp, hcl, htx, hta, hdw, hdok, hn40, hPn, hpr, hpr20⟩ := id hC
  obtain ⟨hS1, hS2, hS3⟩ := id hstr
  refine lv_iconst (v := (nI 0)) hx hb dX6_certain_0 (by decide) ?_
  refine lv_istore_n (lv' := [(1, .int (nI 0)), (0, .ref x)]) hx hb dX6_certain_1 rfl hl (by decide) rfl (fun ls hl => ?_)
  refine lv_iconst (v := (nI 0)) hx hb dX6_certain_2 (by decide) ?_
  refine lv_istore_n (lv' := [(2, .int (nI 0)), (1, .int (nI 0)), (0, .ref x)]) hx hb dX6_certain_3 rfl hl (by decide) rfl (fun ls hl => ?_)
  refine lv_iconst (v := (nI 0)) hx hb dX6_certain_4 (by decide) ?_
  refine lv_istore_n (lv' := [(3, .int (nI 0)), (2, .int (nI 0)), (1, .int (nI 0)), (0, .ref x)]) hx hb dX6_certain_5 rfl hl (by decide) rfl (fun ls hl => ?_)
  have L6 : ∀ (fuel : Nat), ∀ (k fr a : Nat), S.length - k < fuel → k ≤ S.length → ah_ct P S k = (fr, a, false) → fr ≤ S.length + 8 → a ≤ 8 * k → ∀ (H : Heap) (locs : List Loc), ah_K A D F H → va_S A s.heap H locs → ∀ (ls : Array Slot), lv_has ls 5 [(0, .ref x), (1, .int (nI a)), (2, .int (nI fr)), (3, .int (nI k))] → W p l e { frames := 3, cells := 0, slots := 0, locals := 73 } s m [.ref x].toArray below meth c H locs 0 0 Q (F0 m 6 ls []) := by
    intro fuel
    induction fuel with
    | zero =>
      intro k fr a hm
      exact absurd hm (Nat.not_lt_zero _)
    | succ fuel ih =>
      intro k fr a hm hk ha hfr hak H locs hP hS ls hl
      refine lv_iload_n hx hb dX6_certain_6 rfl (lv_at hl 3 rfl) ?_
      refine lv_aload_n hx hb dX6_certain_7 rfl (lv_at hl 0 rfl) ?_
      refine gf_Aho_19 E hP hxx rfl dX6_certain_8 ?_
      refine gf_Aho_143 E hP hst rfl dX6_certain_11 ?_
      refine ah_icmp_ge (tgt := 85) hx hb (by omega) (by omega) dX6_certain_14 (by decide) (fun hc14 => ?_) (fun hc14 => ?_)
      · skip
        refine lv_iload_n hx hb dX6_certain_85 rfl (lv_at hl 1 rfl) ?_
        rw [hQ]
        exact ah_iret E hr hP hS ⟨rfl, by rw [← show k = S.length by omega, ha]⟩ (Nat.le_of_ble_eq_true rfl) (Nat.le_of_ble_eq_true rfl) dX6_certain_86
      · skip
        refine lv_iload_n hx hb dX6_certain_17 rfl (lv_at hl 3 rfl) ?_
        refine lv_iload_n hx hb dX6_certain_18 rfl (lv_at hl 2 rfl) ?_
        refine ah_icmp_lt (tgt := 79) hx hb (by omega) (by omega) dX6_certain_19 (by decide) (fun hc19 => ?_) (fun hc19 => ?_)
        · skip
          refine lv_iinc (v := (nI (k + 1))) (lv' := [(3, .int (nI (k + 1))), (0, .ref x), (1, .int (nI a)), (2, .int (nI fr))]) hx hb dX6_certain_79 hl (k := 3) rfl (ah_inc _) (by decide) rfl (fun ls hl => ?_)
          refine lv_goto (tgt := 6) hx hb dX6_certain_82 (by decide) ?_
          exact ih _ _ _ (by omega) (by omega) (ah_ct_o ha hc19) (by omega) (by omega) _ _ hP hS ls (lv_sub hl [1, 2, 3, 0] rfl)
        · skip
          refine lv_aload_n hx hb dX6_certain_22 rfl (lv_at hl 0 rfl) ?_
          refine lv_iload_n hx hb dX6_certain_23 rfl (lv_at hl 3 rfl) ?_
          refine ah_calli (ah_runV E hP hS (As := [.int (nI k)]) (rest := []) (b := x) (c_mayGrowFrom l A D _ hC (k := k) (by omega)) lk_Aho_201 li_Aho_201 hxx rfl ⟨rfl, rfl, (Nat.le_of_ble_eq_true rfl), (Nat.le_of_ble_eq_true rfl)⟩ rfl hl.1 rfl (Nat.le_of_ble_eq_true rfl) dX6_certain_24 ⟨(Nat.le_of_ble_eq_true rfl), (Nat.le_of_ble_eq_true rfl)⟩) hS (fun r F1 H locs hq hP hS => ?_)
          obtain ⟨rfl, rfl⟩ := hq
          refine ah_ifb_eq (tgt := 32) hx hb dX6_certain_27 (by decide) (fun hc27 => ?_) (fun hc27 => ?_)
          · skip
            refine lv_aload_n hx hb dX6_certain_32 rfl (lv_at hl 0 rfl) ?_
            refine gf_Aho_10 E hP hxx rfl dX6_certain_33 ?_
            refine lv_aload_n hx hb dX6_certain_36 rfl (lv_at hl 0 rfl) ?_
            refine gf_Aho_19 E hP hxx rfl dX6_certain_37 ?_
            refine lv_iload_n hx hb dX6_certain_40 rfl (lv_at hl 3 rfl) ?_
            refine ah_callq (ah_runV E hP hS (As := [.ref st, .int (nI k)]) (rest := []) (b := b) (c_Book_longestAt l A D _ hbk hra hrows hst hla hstr (i := k) (by omega)) lk_Aho_171 li_Aho_171 hbk rfl ⟨rfl, rfl, (Nat.le_of_ble_eq_true rfl), (Nat.le_of_ble_eq_true rfl)⟩ rfl hl.1 rfl (Nat.le_of_ble_eq_true rfl) dX6_certain_41 ⟨(Nat.le_of_ble_eq_true rfl), (Nat.le_of_ble_eq_true rfl)⟩) hS (fun r F2 H locs hq hP hS => ?_)
            obtain ⟨rfl, rfl⟩ := hq
            cases hq : (ah_best P (fun w => ah_at S k w) 40).bind rf with
            | none =>
              have hnx : ah_n0 P S k = none := ah_best_bn hrows (Nat.le_refl _) hq.symm
              refine lv_astoreN (lv' := [(4, .null), (0, .ref x), (1, .int (nI a)), (2, .int (nI fr)), (3, .int (nI k))]) hx hb dX6_certain_44 hl (by decide) rfl (fun ls hl => ?_)
              refine lv_aloadN hx hb dX6_certain_46 (lv_at hl 0 rfl) ?_
              refine lv_ifnonnullN hx hb dX6_certain_48 ?_
              refine lv_iinc (v := (nI (a + 1))) (lv' := [(1, .int (nI (a + 1))), (4, .null), (0, .ref x), (2, .int (nI fr)), (3, .int (nI k))]) hx hb dX6_certain_51 hl (k := 2) rfl (ah_inc _) (by decide) rfl (fun ls hl => ?_)
              refine lv_goto (tgt := 79) hx hb dX6_certain_54 (by decide) ?_
              refine lv_iinc (v := (nI (k + 1))) (lv' := [(3, .int (nI (k + 1))), (1, .int (nI (a + 1))), (4, .null), (0, .ref x), (2, .int (nI fr))]) hx hb dX6_certain_79 hl (k := 4) rfl (ah_inc _) (by decide) rfl (fun ls hl => ?_)
              refine lv_goto (tgt := 6) hx hb dX6_certain_82 (by decide) ?_
              exact ih _ _ _ (by omega) (by omega) (ah_ct_n ha hc19 hc27 hnx) (by omega) (by omega) _ _ hP hS ls (lv_sub hl [3, 1, 4, 0] rfl)
            | some q =>
              obtain ⟨j, w, r, lw, lr, hnx, hj, hrj, hPj, hqo, hlw, hlr, hok, hokr, hne, hfw⟩ := ah_best_bs2 hrows hq.symm
              have hnx : ah_n0 P S k = some j := hnx
              have hwl := hok.1
              have hrl := hokr.1
              refine lv_astore (lv' := [(4, .ref q), (0, .ref x), (1, .int (nI a)), (2, .int (nI fr)), (3, .int (nI k))]) hx hb dX6_certain_44 hl (by decide) rfl (fun ls hl => ?_)
              refine lv_aload hx hb dX6_certain_46 (lv_at hl 0 rfl) ?_
              refine lv_ifnonnull (tgt := 57) hx hb dX6_certain_48 (by decide) ?_
              refine lv_iload_n hx hb dX6_certain_57 rfl (lv_at hl 2 rfl) ?_
              refine lv_aload hx hb dX6_certain_58 (lv_at hl 0 rfl) ?_
              refine gf_Aho_90 E hP hqo rfl dX6_certain_60 ?_
              refine gf_Aho_54 E hP hlr rfl dX6_certain_63 ?_
              refine ah_iadd hx hb dX6_certain_66 ?_
              refine lv_istore_n (lv' := [(1, .int (nI (a + r.length))), (4, .ref q), (0, .ref x), (2, .int (nI fr)), (3, .int (nI k))]) hx hb dX6_certain_67 rfl hl (by decide) rfl (fun ls hl => ?_)
              refine lv_iload_n hx hb dX6_certain_68 rfl (lv_at hl 4 rfl) ?_
              refine lv_aload hx hb dX6_certain_69 (lv_at hl 1 rfl) ?_
              refine gf_Aho_102 E hP hqo rfl dX6_certain_71 ?_
              refine gf_Aho_54 E hP hlw rfl dX6_certain_74 ?_
              refine ah_iadd hx hb dX6_certain_77 ?_
              refine lv_istore_n (lv' := [(2, .int (nI (k + w.length))), (1, .int (nI (a + r.length))), (4, .ref q), (0, .ref x), (3, .int (nI k))]) hx hb dX6_certain_78 rfl hl (by decide) rfl (fun ls hl => ?_)
              refine lv_iinc (v := (nI (k + 1))) (lv' := [(3, .int (nI (k + 1))), (2, .int (nI (k + w.length))), (1, .int (nI (a + r.length))), (4, .ref q), (0, .ref x)]) hx hb dX6_certain_79 hl (k := 4) rfl (ah_inc _) (by decide) rfl (fun ls hl => ?_)
              refine lv_goto (tgt := 6) hx hb dX6_certain_82 (by decide) ?_
              exact ih _ (k + w.length) (a + r.length) (by omega) (by omega) (by rw [ah_ct_s ha hc19 hc27 hnx, ah_w_s hPj, ah_r_s hPj]) (by omega) (by omega) _ _ hP hS ls (lv_sub hl [4, 2, 1, 0] rfl)
          · skip
            refine lv_iload_n hx hb dX6_certain_30 rfl (lv_at hl 1 rfl) ?_
            rw [hQ]
            exact ah_iret E hr hP hS ⟨rfl, by rw [show S.length = k + 1 + (S.length - (k + 1)) by omega, ah_ct_stop (ah_ct_g ha hc19 hc27)]⟩ (Nat.le_of_ble_eq_true rfl) (Nat.le_of_ble_eq_true rfl) dX6_certain_31
  exact L6 (S.length + 1) 0 0 0 (by omega) (by omega) rfl (by omega) (by omega) _ _ hP hS ls (lv_sub hl [3, 2, 1, 0] rfl)
