set_option maxHeartbeats 4000000 in
set_option maxRecDepth 100000 in
/-- need -/
theorem z_need (l : Launch) (A : Nat → Prop) (D : ah_G) (F : ah_F) {b ra : Nat} {rf : Nat → Option Nat} {P : ah_Pt} {n pr : Nat} (hbk : F b = some (.inr (0, [.ref ra, .int (nI n), .int (nI pr)]))) (hra : F ra = some (ah_aq D 40 rf)) (hrows : ah_rows F rf P) {x dw ch tx st : Nat} {td : Int32} (hxx : F x = some (.inr (6, [.ref b, .ref st, .ref ch, .ref tx, .ref dw, .int td]))) {v0 : Int32} (hv : ah_pi P v0 ≠ none) : Met l yX6_need (Cond.code yX6_need cX6_need 3 (some (.object "Ahoarch$Pattern")) :: ah_T) { frames := 1, cells := 0, slots := 0, locals := 21 } (va_Pc [.ref x, .int v0] (ah_B A D F)) (ah_Qq A D (fun (r : Option Nat) F1 => F = F1 ∧ ∃ (i : Nat) (q : Nat) (w r0 : List Nat) (lw lr : Nat), r = some q ∧ ah_pi P v0 = some i ∧ i < 40 ∧ v0 = nI i ∧ rf i = some q ∧ P i = some (w, r0) ∧ F q = some (.inr (2, [.int (nI i), .ref lw, .ref lr])) ∧ ah_wd F lw w ∧ ah_wd F lr r0 ∧ ah_ok w ∧ ah_ok r0 ∧ w ≠ [])) 0 0 A := by
  refine ah_met (own := "Ahoarch") (by decide) rfl (Nat.le_of_ble_eq_true rfl) ?_
  intro p e s m below meth c ls E hr hini hl hP hS Q hQ
  have hx := E.1
  have hb := E.2.1
  have hl : lv_has ls 3 [(0, .ref x), (1, .int v0)] := hl
  refine lv_aload_n hx hb dX6_need_0 rfl (lv_at hl 0 rfl) ?_
  refine gf_Aho_10 E hP hxx rfl dX6_need_1 ?_
  refine lv_iload_n hx hb dX6_need_4 rfl (lv_at hl 1 rfl) ?_
  refine ah_callq (ah_runV E hP hS (As := [.int v0]) (rest := []) (b := b) (c_Book_find l A D _ hbk hra hrows (x := v0)) lk_Aho_212 li_Aho_212 hbk rfl ⟨rfl, rfl, (Nat.le_of_ble_eq_true rfl), (Nat.le_of_ble_eq_true rfl)⟩ rfl hl.1 rfl (Nat.le_of_ble_eq_true rfl) dX6_need_5 ⟨(Nat.le_of_ble_eq_true rfl), (Nat.le_of_ble_eq_true rfl)⟩) hS (fun r F1 H locs hq hP hS => ?_)
  obtain ⟨rfl, rfl⟩ := hq
  cases hq : (ah_ix v0).bind rf with
  | none =>
    refine lv_astore_nN (lv' := [(2, .null), (0, .ref x), (1, .int v0)]) hx hb dX6_need_8 rfl hl (by decide) rfl (fun ls hl => ?_)
    refine lv_aload_nN hx hb dX6_need_9 rfl (lv_at hl 0 rfl) ?_
    refine lv_ifnonnullN hx hb dX6_need_10 ?_
    exact absurd (ah_pi_n hrows hq) hv
  | some q =>
    refine lv_astore_n (lv' := [(2, .ref q), (0, .ref x), (1, .int v0)]) hx hb dX6_need_8 rfl hl (by decide) rfl (fun ls hl => ?_)
    refine lv_aload_n hx hb dX6_need_9 rfl (lv_at hl 0 rfl) ?_
    refine lv_ifnonnull (tgt := 23) hx hb dX6_need_10 (by decide) ?_
    refine lv_aload_n hx hb dX6_need_23 rfl (lv_at hl 0 rfl) ?_
    rw [hQ]
    exact ah_qret (v := some q) E hr hP hS (by obtain ⟨i, w, r0, lw, lr, h1⟩ := ah_pi_s hrows hq; exact ⟨rfl, i, q, w, r0, lw, lr, rfl, h1⟩) (Nat.le_of_ble_eq_true rfl) (Nat.le_of_ble_eq_true rfl) dX6_need_24

set_option maxHeartbeats 4000000 in
set_option maxRecDepth 100000 in
/-- needRule -/
theorem z_needRule (l : Launch) (A : Nat → Prop) (D : ah_G) (F : ah_F) {ru : Nat} (hru : ru ≤ 2) : Met l yX6_needRule (Cond.code yX6_needRule cX6_needRule 1 none :: ah_T) { frames := 0, cells := 0, slots := 0, locals := 0 } (va_Pc [.int (nI ru)] (ah_B A D F)) (ah_Qv A D (fun F1 => F = F1)) 0 0 A := by
  refine ah_met (own := "Ahoarch") (by decide) rfl (Nat.le_of_ble_eq_true rfl) ?_
  intro p e s m below meth c ls E hr hini hl hP hS Q hQ
  have hx := E.1
  have hb := E.2.1
  have hl : lv_has ls 1 [(0, .int (nI ru))] := hl
  refine lv_iload_n hx hb dX6_needRule_0 rfl (lv_at hl 0 rfl) ?_
  refine ah_if_lt (tgt := 9) hx hb (by omega) dX6_needRule_1 (by decide) ?_
  refine lv_iload_n hx hb dX6_needRule_4 rfl (lv_at hl 0 rfl) ?_
  refine lv_iconst (v := (nI 2)) hx hb dX6_needRule_5 (by decide) ?_
  refine ah_icmp_le (tgt := 19) hx hb (by omega) (by omega) dX6_needRule_6 (by decide) (fun hc6 => ?_) (fun hc6 => ?_)
  · skip
    rw [hQ]
    exact ah_vret E hr hP hS rfl (Nat.le_of_ble_eq_true rfl) (Nat.le_of_ble_eq_true rfl) dX6_needRule_19
  · skip
    exact absurd hc6 (by omega)

set_option maxHeartbeats 4000000 in
set_option maxRecDepth 100000 in
/-- length -/
theorem z_length (l : Launch) (A : Nat → Prop) (D : ah_G) (F : ah_F) {x n : Nat} {P : ah_Pt} {dr S : List Nat} {td : Int32} (hC : ah_C D F x P n dr S td) {v0 : Int32} (hv : ah_pi P v0 ≠ none) : Met l yX6_length (Cond.code yX6_length cX6_length 2 (some .int) :: ah_T) { frames := 2, cells := 0, slots := 0, locals := 43 } (va_Pc [.ref x, .int v0] (ah_B A D F)) (ah_Qi A D (fun (r : Int32) F1 => F = F1 ∧ ∃ (i : Nat) (w r0 : List Nat), ah_pi P v0 = some i ∧ P i = some (w, r0) ∧ nI w.length = r)) 0 0 A := by
  refine ah_met (own := "Ahoarch") (by decide) rfl (Nat.le_of_ble_eq_true rfl) ?_
  intro p e s m below meth c ls E hr hini hl hP hS Q hQ
  have hx := E.1
  have hb := E.2.1
  have hl : lv_has ls 2 [(0, .ref x), (1, .int v0)] := hl
  obtain ⟨b, ra, st, la, ch, cp, cl, tx, ta, dw, rf, lf, pf, plf, tf, cc, tc, pr, hxx, hbk, hra, hrows, hst, hla, hstr, hch, hcp, hcl, htx, hta, hdw, hdok, hn40, hPn, hpr, hpr20⟩ := id hC
  obtain ⟨hS1, hS2, hS3⟩ := id hstr
  refine lv_aload_n hx hb dX6_length_0 rfl (lv_at hl 0 rfl) ?_
  refine lv_iload_n hx hb dX6_length_1 rfl (lv_at hl 1 rfl) ?_
  refine ah_callq (ah_runV E hP hS (As := [.int v0]) (rest := []) (b := x) (z_need l A D _ hbk hra hrows hxx (v0 := v0) hv) lk_Aho_86 li_Aho_86 hxx rfl ⟨rfl, rfl, (Nat.le_of_ble_eq_true rfl), (Nat.le_of_ble_eq_true rfl)⟩ rfl hl.1 rfl (Nat.le_of_ble_eq_true rfl) dX6_length_2 ⟨(Nat.le_of_ble_eq_true rfl), (Nat.le_of_ble_eq_true rfl)⟩) hS (fun r F1 H locs hq hP hS => ?_)
  obtain ⟨rfl, i, q, w, r0, lw, lr, rfl, hpi, hi40, hvi, hri, hPi, hqo, hlw, hlr, hok, hokr, hne⟩ := hq
  have hwl := hok.1
  refine gf_Aho_102 E hP hqo rfl dX6_length_5 ?_
  refine gf_Aho_54 E hP hlw rfl dX6_length_8 ?_
  rw [hQ]
  exact ah_iret E hr hP hS ⟨rfl, i, w, r0, hpi, hPi, rfl⟩ (Nat.le_of_ble_eq_true rfl) (Nat.le_of_ble_eq_true rfl) dX6_length_11

set_option maxHeartbeats 4000000 in
set_option maxRecDepth 100000 in
/-- link -/
theorem z_link (l : Launch) (A : Nat → Prop) (D : ah_G) (F : ah_F) {x n : Nat} {P : ah_Pt} {dr S : List Nat} {td : Int32} (hC : ah_C D F x P n dr S td) {v0 : Int32} (hv : ah_pi P v0 ≠ none) : Met l yX6_link (Cond.code yX6_link cX6_link 3 (some .int) :: ah_T) { frames := 3, cells := 0, slots := 0, locals := 75 } (va_Pc [.ref x, .int v0] (ah_B A D F)) (ah_Qi A D (fun (r : Int32) F1 => F = F1 ∧ ∃ (i : Nat) (w r0 : List Nat), ah_pi P v0 = some i ∧ P i = some (w, r0) ∧ nI (ah_le P w (w.length - 1)) = r)) 0 0 A := by
  refine ah_met (own := "Ahoarch") (by decide) rfl (Nat.le_of_ble_eq_true rfl) ?_
  intro p e s m below meth c ls E hr hini hl hP hS Q hQ
  have hx := E.1
  have hb := E.2.1
  have hl : lv_has ls 3 [(0, .ref x), (1, .int v0)] := hl
  obtain ⟨b, ra, st, la, ch, cp, cl, tx, ta, dw, rf, lf, pf, plf, tf, cc, tc, pr, hxx, hbk, hra, hrows, hst, hla, hstr, hch, hcp, hcl, htx, hta, hdw, hdok, hn40, hPn, hpr, hpr20⟩ := id hC
  obtain ⟨hS1, hS2, hS3⟩ := id hstr
  refine lv_aload_n hx hb dX6_link_0 rfl (lv_at hl 0 rfl) ?_
  refine lv_iload_n hx hb dX6_link_1 rfl (lv_at hl 1 rfl) ?_
  refine ah_callq (ah_runV E hP hS (As := [.int v0]) (rest := []) (b := x) (z_need l A D _ hbk hra hrows hxx (v0 := v0) hv) lk_Aho_86 li_Aho_86 hxx rfl ⟨rfl, rfl, (Nat.le_of_ble_eq_true rfl), (Nat.le_of_ble_eq_true rfl)⟩ rfl hl.1 rfl (Nat.le_of_ble_eq_true rfl) dX6_link_2 ⟨(Nat.le_of_ble_eq_true rfl), (Nat.le_of_ble_eq_true rfl)⟩) hS (fun r F1 H locs hq hP hS => ?_)
  obtain ⟨rfl, i, q, w, r0, lw, lr, rfl, hpi, hi40, hvi, hri, hPi, hqo, hlw, hlr, hok, hokr, hne⟩ := hq
  have hwl := hok.1
  refine gf_Aho_102 E hP hqo rfl dX6_link_5 ?_
  refine lv_astore_n (lv' := [(2, .ref lw), (0, .ref x), (1, .int v0)]) hx hb dX6_link_8 rfl hl (by decide) rfl (fun ls hl => ?_)
  refine lv_aload_n hx hb dX6_link_9 rfl (lv_at hl 1 rfl) ?_
  refine gf_Aho_10 E hP hxx rfl dX6_link_10 ?_
  refine lv_aload_n hx hb dX6_link_13 rfl (lv_at hl 0 rfl) ?_
  refine gf_Aho_109 E hP hlw rfl dX6_link_14 ?_
  refine lv_aload_n hx hb dX6_link_17 rfl (lv_at hl 0 rfl) ?_
  refine gf_Aho_54 E hP hlw rfl dX6_link_18 ?_
  refine lv_iconst (v := (nI 1)) hx hb dX6_link_21 (by decide) ?_
  refine ah_isub hx hb (List.length_pos_iff.mpr hne) dX6_link_22 ?_
  refine ah_calli (ah_runV E hP hS (As := [.long (lN (ah_enc w)), .int (nI (w.length - 1))]) (rest := []) (b := b) (c_Book_longestEnd l A D _ hbk hra hrows (t := w) (mo := w.length - 1) hok (by omega)) lk_Aho_113 li_Aho_113 hbk rfl ⟨rfl, rfl, (Nat.le_of_ble_eq_true rfl), (Nat.le_of_ble_eq_true rfl)⟩ rfl hl.1 rfl (Nat.le_of_ble_eq_true rfl) dX6_link_23 ⟨(Nat.le_of_ble_eq_true rfl), (Nat.le_of_ble_eq_true rfl)⟩) hS (fun r F2 H locs hq hP hS => ?_)
  obtain ⟨rfl, rfl⟩ := hq
  rw [hQ]
  exact ah_iret E hr hP hS ⟨rfl, i, w, r0, hpi, hPi, rfl⟩ (Nat.le_of_ble_eq_true rfl) (Nat.le_of_ble_eq_true rfl) dX6_link_26

set_option maxHeartbeats 4000000 in
set_option maxRecDepth 100000 in
/-- occurrencesOf -/
theorem z_occurrencesOf (l : Launch) (A : Nat → Prop) (D : ah_G) (F : ah_F) {x n : Nat} {P : ah_Pt} {dr S : List Nat} {td : Int32} (hC : ah_C D F x P n dr S td) {v0 : Int32} (hv : ah_pi P v0 ≠ none) : Met l yX6_occurrencesOf (Cond.code yX6_occurrencesOf cX6_occurrencesOf 2 (some .int) :: ah_T) { frames := 3, cells := 0, slots := 0, locals := 67 } (va_Pc [.ref x, .int v0] (ah_B A D F)) (ah_Qi A D (fun (r : Int32) F1 => F = F1 ∧ ∃ (i : Nat) (w r0 : List Nat), ah_pi P v0 = some i ∧ P i = some (w, r0) ∧ nI (pu_cn (fun i => ah_at S i w) S.length) = r)) 0 0 A := by
  refine ah_met (own := "Ahoarch") (by decide) rfl (Nat.le_of_ble_eq_true rfl) ?_
  intro p e s m below meth c ls E hr hini hl hP hS Q hQ
  have hx := E.1
  have hb := E.2.1
  have hl : lv_has ls 2 [(0, .ref x), (1, .int v0)] := hl
  obtain ⟨b, ra, st, la, ch, cp, cl, tx, ta, dw, rf, lf, pf, plf, tf, cc, tc, pr, hxx, hbk, hra, hrows, hst, hla, hstr, hch, hcp, hcl, htx, hta, hdw, hdok, hn40, hPn, hpr, hpr20⟩ := id hC
  obtain ⟨hS1, hS2, hS3⟩ := id hstr
  refine lv_aload_n hx hb dX6_occurrencesOf_0 rfl (lv_at hl 0 rfl) ?_
  refine gf_Aho_19 E hP hxx rfl dX6_occurrencesOf_1 ?_
  refine lv_aload_n hx hb dX6_occurrencesOf_4 rfl (lv_at hl 0 rfl) ?_
  refine lv_iload_n hx hb dX6_occurrencesOf_5 rfl (lv_at hl 1 rfl) ?_
  refine ah_callq (ah_runV E hP hS (As := [.int v0]) (rest := [.ref st]) (b := x) (z_need l A D _ hbk hra hrows hxx (v0 := v0) hv) lk_Aho_86 li_Aho_86 hxx rfl ⟨rfl, rfl, (Nat.le_of_ble_eq_true rfl), (Nat.le_of_ble_eq_true rfl)⟩ rfl hl.1 rfl (Nat.le_of_ble_eq_true rfl) dX6_occurrencesOf_6 ⟨(Nat.le_of_ble_eq_true rfl), (Nat.le_of_ble_eq_true rfl)⟩) hS (fun r F1 H locs hq hP hS => ?_)
  obtain ⟨rfl, i, q, w, r0, lw, lr, rfl, hpi, hi40, hvi, hri, hPi, hqo, hlw, hlr, hok, hokr, hne⟩ := hq
  have hwl := hok.1
  refine gf_Aho_102 E hP hqo rfl dX6_occurrencesOf_9 ?_
  refine ah_calli (ah_runV E hP hS (As := [.ref lw]) (rest := []) (b := st) (c_Stream_count l A D _ hst hla hstr hlw hok hne) lk_Aho_164 li_Aho_164 hst rfl ⟨rfl, rfl, (Nat.le_of_ble_eq_true rfl), (Nat.le_of_ble_eq_true rfl)⟩ rfl hl.1 rfl (Nat.le_of_ble_eq_true rfl) dX6_occurrencesOf_12 ⟨(Nat.le_of_ble_eq_true rfl), (Nat.le_of_ble_eq_true rfl)⟩) hS (fun r F2 H locs hq hP hS => ?_)
  obtain ⟨rfl, rfl⟩ := hq
  rw [hQ]
  exact ah_iret E hr hP hS ⟨rfl, i, w, r0, hpi, hPi, rfl⟩ (Nat.le_of_ble_eq_true rfl) (Nat.le_of_ble_eq_true rfl) dX6_occurrencesOf_15

set_option maxHeartbeats 4000000 in
set_option maxRecDepth 100000 in
/-- overlap -/
theorem z_overlap (l : Launch) (A : Nat → Prop) (D : ah_G) (F : ah_F) {x n : Nat} {P : ah_Pt} {dr S : List Nat} {td : Int32} (hC : ah_C D F x P n dr S td) {v0 v1 : Int32} (hv : ah_pi P v0 ≠ none) (hv2 : ah_pi P v1 ≠ none) : Met l yX6_overlap (Cond.code yX6_overlap cX6_overlap 6 (some .int) :: ah_T) { frames := 2, cells := 0, slots := 0, locals := 43 } (va_Pc [.ref x, .int v0, .int v1] (ah_B A D F)) (ah_Qi A D (fun (r : Int32) F1 => F = F1 ∧ ∃ (i : Nat) (w r0 : List Nat) (i2 : Nat) (w2 r02 : List Nat), ah_pi P v0 = some i ∧ P i = some (w, r0) ∧ ah_pi P v1 = some i2 ∧ P i2 = some (w2, r02) ∧ nI (ah_ov w w2 (min w.length w2.length - 1)) = r)) 0 0 A := by
  refine ah_met (own := "Ahoarch") (by decide) rfl (Nat.le_of_ble_eq_true rfl) ?_
  intro p e s m below meth c ls E hr hini hl hP hS Q hQ
  have hx := E.1
  have hb := E.2.1
  have hl : lv_has ls 6 [(0, .ref x), (1, .int v0), (2, .int v1)] := hl
  obtain ⟨b, ra, st, la, ch, cp, cl, tx, ta, dw, rf, lf, pf, plf, tf, cc, tc, pr, hxx, hbk, hra, hrows, hst, hla, hstr, hch, hcp, hcl, htx, hta, hdw, hdok, hn40, hPn, hpr, hpr20⟩ := id hC
  obtain ⟨hS1, hS2, hS3⟩ := id hstr
  refine lv_aload_n hx hb dX6_overlap_0 rfl (lv_at hl 0 rfl) ?_
  refine lv_iload_n hx hb dX6_overlap_1 rfl (lv_at hl 1 rfl) ?_
  refine ah_callq (ah_runV E hP hS (As := [.int v0]) (rest := []) (b := x) (z_need l A D _ hbk hra hrows hxx (v0 := v0) hv) lk_Aho_86 li_Aho_86 hxx rfl ⟨rfl, rfl, (Nat.le_of_ble_eq_true rfl), (Nat.le_of_ble_eq_true rfl)⟩ rfl hl.1 rfl (Nat.le_of_ble_eq_true rfl) dX6_overlap_2 ⟨(Nat.le_of_ble_eq_true rfl), (Nat.le_of_ble_eq_true rfl)⟩) hS (fun r F1 H locs hq hP hS => ?_)
  obtain ⟨rfl, i, q, w, r0, lw, lr, rfl, hpi, hi40, hvi, hri, hPi, hqo, hlw, hlr, hok, hokr, hne⟩ := hq
  have hwl := hok.1
  refine gf_Aho_102 E hP hqo rfl dX6_overlap_5 ?_
  refine lv_astore_n (lv' := [(3, .ref lw), (0, .ref x), (1, .int v0), (2, .int v1)]) hx hb dX6_overlap_8 rfl hl (by decide) rfl (fun ls hl => ?_)
  refine lv_aload_n hx hb dX6_overlap_9 rfl (lv_at hl 1 rfl) ?_
  refine lv_iload_n hx hb dX6_overlap_10 rfl (lv_at hl 3 rfl) ?_
  refine ah_callq (ah_runV E hP hS (As := [.int v1]) (rest := []) (b := x) (z_need l A D _ hbk hra hrows hxx (v0 := v1) hv2) lk_Aho_86 li_Aho_86 hxx rfl ⟨rfl, rfl, (Nat.le_of_ble_eq_true rfl), (Nat.le_of_ble_eq_true rfl)⟩ rfl hl.1 rfl (Nat.le_of_ble_eq_true rfl) dX6_overlap_11 ⟨(Nat.le_of_ble_eq_true rfl), (Nat.le_of_ble_eq_true rfl)⟩) hS (fun r F2 H locs hq hP hS => ?_)
  obtain ⟨rfl, i2, q2, w2, r02, lw2, lr2, rfl, hpi2, hi402, hvi2, hri2, hPi2, hqo2, hlw2, hlr2, hok2, hokr2, hne2⟩ := hq
  have hwl2 := hok2.1
  refine gf_Aho_102 E hP hqo2 rfl dX6_overlap_14 ?_
  refine lv_astore (lv' := [(4, .ref lw2), (3, .ref lw), (0, .ref x), (1, .int v0), (2, .int v1)]) hx hb dX6_overlap_17 hl (by decide) rfl (fun ls hl => ?_)
  refine lv_aload_n hx hb dX6_overlap_19 rfl (lv_at hl 1 rfl) ?_
  refine gf_Aho_54 E hP hlw rfl dX6_overlap_20 ?_
  refine lv_aload hx hb dX6_overlap_23 (lv_at hl 0 rfl) ?_
  refine gf_Aho_54 E hP hlw2 rfl dX6_overlap_25 ?_
  refine mi_Aho_117 E hl.1 (by omega) (by omega) (Nat.le_of_ble_eq_true rfl) (Nat.le_of_ble_eq_true rfl) (Nat.le_of_ble_eq_true rfl) (Nat.le_of_ble_eq_true rfl) dX6_overlap_28 ?_
  refine lv_iconst (v := (nI 1)) hx hb dX6_overlap_31 (by decide) ?_
  refine ah_isub hx hb (by have := List.length_pos_iff.mpr hne; have := List.length_pos_iff.mpr hne2; omega) dX6_overlap_32 ?_
  refine lv_istore (lv' := [(5, .int (nI ((min w.length w2.length) - 1))), (4, .ref lw2), (3, .ref lw), (0, .ref x), (1, .int v0), (2, .int v1)]) hx hb dX6_overlap_33 hl (by decide) rfl (fun ls hl => ?_)
  have L35 : ∀ (fuel : Nat), ∀ (c0 : Nat), c0 < fuel → c0 ≤ min w.length w2.length - 1 → ah_ov w w2 c0 = ah_ov w w2 (min w.length w2.length - 1) → ∀ (H : Heap) (locs : List Loc), ah_K A D F H → va_S A s.heap H locs → ∀ (ls : Array Slot), lv_has ls 6 [(3, .ref lw), (4, .ref lw2), (5, .int (nI c0))] → W p l e { frames := 2, cells := 0, slots := 0, locals := 43 } s m [.ref x, .int v0, .int v1].toArray below meth c H locs ((0 + 0) + 0) ((0 + 0) + 0) Q (F0 m 35 ls []) := by
    intro fuel
    induction fuel with
    | zero =>
      intro c0 hm
      exact absurd hm (Nat.not_lt_zero _)
    | succ fuel ih35 =>
      intro c0 hm hk ha H locs hP hS ls hl
      refine lv_iload hx hb dX6_overlap_35 (lv_at hl 2 rfl) ?_
      refine ah_if_le (tgt := 68) hx hb (by omega) dX6_overlap_37 (by decide) (fun hc37 => ?_) (fun hc37 => ?_)
      · skip
        refine lv_iconst (v := (nI 0)) hx hb dX6_overlap_68 (by decide) ?_
        rw [hQ]
        exact ah_iret E hr hP hS ⟨rfl, i, w, r0, i2, w2, r02, hpi, hPi, hpi2, hPi2, by rw [← ha, hc37]; rfl⟩ (Nat.le_of_ble_eq_true rfl) (Nat.le_of_ble_eq_true rfl) dX6_overlap_69
      · skip
        refine lv_aload hx hb dX6_overlap_40 (lv_at hl 1 rfl) ?_
        refine lv_aload_n hx hb dX6_overlap_42 rfl (lv_at hl 0 rfl) ?_
        refine gf_Aho_109 E hP hlw rfl dX6_overlap_43 ?_
        refine lv_iload hx hb dX6_overlap_46 (lv_at hl 2 rfl) ?_
        refine ah_calll (ah_runS E hP hS (As := [.long (lN (ah_enc w)), .int (nI c0)]) (rest := [.ref lw2]) (c_tail l A D _ (a := ah_enc w) (k := c0) (by have := ah_enc_40 hok; omega) (by omega)) lk_Aho_123 li_Aho_123 ⟨rfl, rfl, (Nat.le_of_ble_eq_true rfl), (Nat.le_of_ble_eq_true rfl)⟩ rfl hl.1 rfl (Nat.le_of_ble_eq_true rfl) dX6_overlap_48 ⟨(Nat.le_of_ble_eq_true rfl), (Nat.le_of_ble_eq_true rfl)⟩) hS (fun r F3 H locs hq hP hS => ?_)
        obtain ⟨rfl, rfl⟩ := hq
        rw [ah_enc_mod hok.2]
        refine lv_iload hx hb dX6_overlap_51 (lv_at hl 2 rfl) ?_
        refine ah_calli (ah_runV E hP hS (As := [.long (lN (ah_enc (w.drop (w.length - c0)))), .int (nI c0)]) (rest := []) (b := lw2) (c_Word_beginsWith l A D _ (u := w.drop (w.length - c0)) (k := c0) (by rw [List.length_drop]; omega) hlw2 hok2 ⟨by rw [List.length_drop]; omega, ah_lt_drop hok.2 _⟩) lk_Aho_127 li_Aho_127 hlw2 rfl ⟨rfl, rfl, (Nat.le_of_ble_eq_true rfl), (Nat.le_of_ble_eq_true rfl)⟩ rfl hl.1 rfl (Nat.le_of_ble_eq_true rfl) dX6_overlap_53 ⟨(Nat.le_of_ble_eq_true rfl), (Nat.le_of_ble_eq_true rfl)⟩) hS (fun r F4 H locs hq hP hS => ?_)
        obtain ⟨rfl, rfl⟩ := hq
        refine ah_ifb_eq (tgt := 62) hx hb dX6_overlap_56 (by decide) (fun hc56 => ?_) (fun hc56 => ?_)
        · skip
          refine lv_iinc (v := (nI (c0 - 1))) (lv' := [(5, .int (nI (c0 - 1))), (3, .ref lw), (4, .ref lw2)]) hx hb dX6_overlap_62 hl (k := 2) rfl (ah_dec (by omega)) (by decide) rfl (fun ls hl => ?_)
          refine lv_goto (tgt := 35) hx hb dX6_overlap_65 (by decide) ?_
          exact ih35 _ (by omega) (by omega) (by rw [ah_ov_f hc37 hc56]; exact ha) _ _ hP hS ls (lv_sub hl [1, 2, 0] rfl)
        · skip
          refine lv_iload hx hb dX6_overlap_59 (lv_at hl 2 rfl) ?_
          rw [hQ]
          exact ah_iret E hr hP hS ⟨rfl, i, w, r0, i2, w2, r02, hpi, hPi, hpi2, hPi2, by rw [← ha, ah_ov_t hc37 hc56]⟩ (Nat.le_of_ble_eq_true rfl) (Nat.le_of_ble_eq_true rfl) dX6_overlap_61
  exact L35 (min w.length w2.length) _ (by have := List.length_pos_iff.mpr hne; have := List.length_pos_iff.mpr hne2; omega) (Nat.le_refl _) rfl _ _ hP hS ls (lv_sub hl [2, 1, 0] rfl)

set_option maxHeartbeats 4000000 in
set_option maxRecDepth 100000 in
/-- occurrence -/
theorem z_occurrence (l : Launch) (A : Nat → Prop) (D : ah_G) (F : ah_F) {x n : Nat} {P : ah_Pt} {dr S : List Nat} {td : Int32} (hC : ah_C D F x P n dr S td) {v0 v1 : Int32} (hv : ah_pi P v0 ≠ none) (hkt : ∀ (i : Nat) (w r0 : List Nat), ah_pi P v0 = some i → P i = some (w, r0) → ah_kt (fun i => ah_at S i w) S.length v1 ≠ none) : Met l yX6_occurrence (Cond.code yX6_occurrence cX6_occurrence 4 (some .int) :: ah_T) { frames := 3, cells := 0, slots := 0, locals := 68 } (va_Pc [.ref x, .int v0, .int v1] (ah_B A D F)) (ah_Qi A D (fun (r : Int32) F1 => F = F1 ∧ ∃ (i : Nat) (w r0 : List Nat) (k : Nat), ah_pi P v0 = some i ∧ P i = some (w, r0) ∧ ah_kt (fun i => ah_at S i w) S.length v1 = some k ∧ nI k = r)) 0 0 A := by
  refine ah_met (own := "Ahoarch") (by decide) rfl (Nat.le_of_ble_eq_true rfl) ?_
  intro p e s m below meth c ls E hr hini hl hP hS Q hQ
  have hx := E.1
  have hb := E.2.1
  have hl : lv_has ls 4 [(0, .ref x), (1, .int v0), (2, .int v1)] := hl
  obtain ⟨b, ra, st, la, ch, cp, cl, tx, ta, dw, rf, lf, pf, plf, tf, cc, tc, pr, hxx, hbk, hra, hrows, hst, hla, hstr, hch, hcp, hcl, htx, hta, hdw, hdok, hn40, hPn, hpr, hpr20⟩ := id hC
  obtain ⟨hS1, hS2, hS3⟩ := id hstr
  refine lv_aload_n hx hb dX6_occurrence_0 rfl (lv_at hl 0 rfl) ?_
  refine gf_Aho_19 E hP hxx rfl dX6_occurrence_1 ?_
  refine lv_aload_n hx hb dX6_occurrence_4 rfl (lv_at hl 0 rfl) ?_
  refine lv_iload_n hx hb dX6_occurrence_5 rfl (lv_at hl 1 rfl) ?_
  refine ah_callq (ah_runV E hP hS (As := [.int v0]) (rest := [.ref st]) (b := x) (z_need l A D _ hbk hra hrows hxx (v0 := v0) hv) lk_Aho_86 li_Aho_86 hxx rfl ⟨rfl, rfl, (Nat.le_of_ble_eq_true rfl), (Nat.le_of_ble_eq_true rfl)⟩ rfl hl.1 rfl (Nat.le_of_ble_eq_true rfl) dX6_occurrence_6 ⟨(Nat.le_of_ble_eq_true rfl), (Nat.le_of_ble_eq_true rfl)⟩) hS (fun r F1 H locs hq hP hS => ?_)
  obtain ⟨rfl, i, q, w, r0, lw, lr, rfl, hpi, hi40, hvi, hri, hPi, hqo, hlw, hlr, hok, hokr, hne⟩ := hq
  have hwl := hok.1
  refine gf_Aho_102 E hP hqo rfl dX6_occurrence_9 ?_
  refine lv_iload_n hx hb dX6_occurrence_12 rfl (lv_at hl 2 rfl) ?_
  refine ah_calli (ah_runV E hP hS (As := [.ref lw, .int v1]) (rest := []) (b := st) (c_Stream_placeOf l A D _ hst hla hstr hlw hok hne (x := v1)) lk_Aho_167 li_Aho_167 hst rfl ⟨rfl, rfl, (Nat.le_of_ble_eq_true rfl), (Nat.le_of_ble_eq_true rfl)⟩ rfl hl.1 rfl (Nat.le_of_ble_eq_true rfl) dX6_occurrence_13 ⟨(Nat.le_of_ble_eq_true rfl), (Nat.le_of_ble_eq_true rfl)⟩) hS (fun r F2 H locs hq hP hS => ?_)
  obtain ⟨rfl, hpl⟩ := hq
  refine lv_istore_n (lv' := [(3, .int r), (0, .ref x), (1, .int v0), (2, .int v1)]) hx hb dX6_occurrence_16 rfl hl (by decide) rfl (fun ls hl => ?_)
  refine lv_iload_n hx hb dX6_occurrence_17 rfl (lv_at hl 0 rfl) ?_
  refine lv_if_ge (tgt := 31) hx hb dX6_occurrence_18 (by decide) (fun hc18 => ?_) (fun hc18 => ?_)
  · skip
    obtain ⟨k, hk1, hk2⟩ := ah_kt_ge hpl hc18
    refine lv_iload_n hx hb dX6_occurrence_31 rfl (lv_at hl 0 rfl) ?_
    rw [hQ]
    exact ah_iret E hr hP hS ⟨rfl, i, w, r0, k, hpi, hPi, hk1, hk2⟩ (Nat.le_of_ble_eq_true rfl) (Nat.le_of_ble_eq_true rfl) dX6_occurrence_32
  · skip
    have hkn := ah_kt_lt hpl (by omega) hc18
    exact absurd hkn (hkt i w r0 hpi hPi)

set_option maxHeartbeats 4000000 in
set_option maxRecDepth 100000 in
/-- endingPattern -/
theorem z_endingPattern (l : Launch) (A : Nat → Prop) (D : ah_G) (F : ah_F) {x n : Nat} {P : ah_Pt} {dr S : List Nat} {td : Int32} (hC : ah_C D F x P n dr S td) {v0 : Int32} (hv : ah_ep P S v0 ≠ none) : Met l yX6_endingPattern (Cond.code yX6_endingPattern cX6_endingPattern 3 (some .int) :: ah_T) { frames := 4, cells := 0, slots := 0, locals := 95 } (va_Pc [.ref x, .int v0] (ah_B A D F)) (ah_Qi A D (fun (r : Int32) F1 => F = F1 ∧ ∃ i : Nat, ah_ep P S v0 = some i ∧ nI i = r)) 0 0 A := by
  refine ah_met (own := "Ahoarch") (by decide) rfl (Nat.le_of_ble_eq_true rfl) ?_
  intro p e s m below meth c ls E hr hini hl hP hS Q hQ
  have hx := E.1
  have hb := E.2.1
  have hl : lv_has ls 3 [(0, .ref x), (1, .int v0)] := hl
  obtain ⟨b, ra, st, la, ch, cp, cl, tx, ta, dw, rf, lf, pf, plf, tf, cc, tc, pr, hxx, hbk, hra, hrows, hst, hla, hstr, hch, hcp, hcl, htx, hta, hdw, hdok, hn40, hPn, hpr, hpr20⟩ := id hC
  obtain ⟨hS1, hS2, hS3⟩ := id hstr
  refine lv_aload_n hx hb dX6_endingPattern_0 rfl (lv_at hl 0 rfl) ?_
  refine gf_Aho_10 E hP hxx rfl dX6_endingPattern_1 ?_
  refine lv_aload_n hx hb dX6_endingPattern_4 rfl (lv_at hl 0 rfl) ?_
  refine gf_Aho_19 E hP hxx rfl dX6_endingPattern_5 ?_
  refine lv_iload_n hx hb dX6_endingPattern_8 rfl (lv_at hl 1 rfl) ?_
  refine ah_callq (ah_runV E hP hS (As := [.ref st, .int v0]) (rest := []) (b := b) (c_Book_endingAt l A D _ hbk hra hrows hst hla hstr (x := v0)) lk_Aho_152 li_Aho_152 hbk rfl ⟨rfl, rfl, (Nat.le_of_ble_eq_true rfl), (Nat.le_of_ble_eq_true rfl)⟩ rfl hl.1 rfl (Nat.le_of_ble_eq_true rfl) dX6_endingPattern_9 ⟨(Nat.le_of_ble_eq_true rfl), (Nat.le_of_ble_eq_true rfl)⟩) hS (fun r F1 H locs hq hP hS => ?_)
  obtain ⟨rfl, rfl⟩ := hq
  cases hq : (ah_kt (fun j => (ah_es P S (8 - j)).isSome) 8 v0).bind (fun j => (ah_es P S (8 - j)).bind rf) with
  | none =>
    refine lv_astore_nN (lv' := [(2, .null), (0, .ref x), (1, .int v0)]) hx hb dX6_endingPattern_12 rfl hl (by decide) rfl (fun ls hl => ?_)
    refine lv_aload_nN hx hb dX6_endingPattern_13 rfl (lv_at hl 0 rfl) ?_
    refine lv_ifnonnullN hx hb dX6_endingPattern_14 ?_
    exact absurd (ah_ep_n hrows hq) hv
  | some q =>
    obtain ⟨i, lw, lr, hep, hqo⟩ := ah_ep_s hrows hq
    refine lv_astore_n (lv' := [(2, .ref q), (0, .ref x), (1, .int v0)]) hx hb dX6_endingPattern_12 rfl hl (by decide) rfl (fun ls hl => ?_)
    refine lv_aload_n hx hb dX6_endingPattern_13 rfl (lv_at hl 0 rfl) ?_
    refine lv_ifnonnull (tgt := 27) hx hb dX6_endingPattern_14 (by decide) ?_
    refine lv_aload_n hx hb dX6_endingPattern_27 rfl (lv_at hl 0 rfl) ?_
    refine gf_Aho_161 E hP hqo rfl dX6_endingPattern_28 ?_
    rw [hQ]
    exact ah_iret E hr hP hS ⟨rfl, i, hep, rfl⟩ (Nat.le_of_ble_eq_true rfl) (Nat.le_of_ble_eq_true rfl) dX6_endingPattern_31

set_option maxHeartbeats 4000000 in
set_option maxRecDepth 100000 in
/-- chosen -/
theorem z_chosen (l : Launch) (A : Nat → Prop) (D : ah_G) (F : ah_F) {x n : Nat} {P : ah_Pt} {dr S : List Nat} {td : Int32} (hC : ah_C D F x P n dr S td) {ru : Nat} (hru : ru ≤ 2) : Met l yX6_chosen (Cond.code yX6_chosen cX6_chosen 2 (some .int) :: ah_T) { frames := 5, cells := 0, slots := 0, locals := 120 } (va_Pc [.ref x, .int (nI ru)] (ah_B A D F)) (ah_Qi A D (fun (r : Int32) F1 => nI (ah_chs P S ru).length = r ∧ ah_C D F1 x P n dr S td ∧ ah_out D F F1)) 0 0 A := by
  refine ah_met (own := "Ahoarch") (by decide) rfl (Nat.le_of_ble_eq_true rfl) ?_
  intro p e s m below meth c ls E hr hini hl hP hS Q hQ
  have hx := E.1
  have hb := E.2.1
  have hl : lv_has ls 2 [(0, .ref x), (1, .int (nI ru))] := hl
  obtain ⟨b, ra, st, la, ch, cp, cl, tx, ta, dw, rf, lf, pf, plf, tf, cc, tc, pr, hxx, hbk, hra, hrows, hst, hla, hstr, hch, hcp, hcl, htx, hta, hdw, hdok, hn40, hPn, hpr, hpr20⟩ := id hC
  obtain ⟨hS1, hS2, hS3⟩ := id hstr
  have hP40 : ∀ i, 40 ≤ i → P i = none := fun i hi => hPn i (by omega)
  refine lv_iload_n hx hb dX6_chosen_0 rfl (lv_at hl 1 rfl) ?_
  refine ah_callv (ah_runS E hP hS (As := [.int (nI ru)]) (rest := []) (z_needRule l A D _ hru) lk_Aho_183 li_Aho_183 ⟨rfl, rfl, (Nat.le_of_ble_eq_true rfl), (Nat.le_of_ble_eq_true rfl)⟩ rfl hl.1 rfl (Nat.le_of_ble_eq_true rfl) dX6_chosen_1 ⟨(Nat.le_of_ble_eq_true rfl), (Nat.le_of_ble_eq_true rfl)⟩) hS (fun F1 H locs hq hP hS => ?_)
  obtain rfl := hq
  refine lv_aload_n hx hb dX6_chosen_4 rfl (lv_at hl 0 rfl) ?_
  refine gf_Aho_26 E hP hxx rfl dX6_chosen_5 ?_
  refine lv_iload_n hx hb dX6_chosen_8 rfl (lv_at hl 1 rfl) ?_
  refine lv_aload_n hx hb dX6_chosen_9 rfl (lv_at hl 0 rfl) ?_
  refine gf_Aho_10 E hP hxx rfl dX6_chosen_10 ?_
  refine lv_aload_n hx hb dX6_chosen_13 rfl (lv_at hl 0 rfl) ?_
  refine gf_Aho_19 E hP hxx rfl dX6_chosen_14 ?_
  refine ah_callv (ah_runV E hP hS (As := [.int (nI ru), .ref b, .ref st]) (rest := []) (b := ch) (c_Choice_choose l A D _ hch hcp hcl hbk hra hrows hst hla hstr (ru := ru) (by omega)) lk_Aho_177 li_Aho_177 hch rfl ⟨rfl, rfl, (Nat.le_of_ble_eq_true rfl), (Nat.le_of_ble_eq_true rfl)⟩ rfl hl.1 rfl (Nat.le_of_ble_eq_true rfl) dX6_chosen_17 ⟨(Nat.le_of_ble_eq_true rfl), (Nat.le_of_ble_eq_true rfl)⟩) hS (fun F2 H locs hcz hP hS => ?_)
  obtain ⟨pf2, lf2, hy1, hy2, hy3, hcho, hcl200, hy6⟩ := hcz
  have hG3 : F2 x = some (.inr (6, [.ref b, .ref st, .ref ch, .ref tx, .ref dw, .int td])) := (hy6 x (ah_nin3 (ah_ne hxx hch rfl) (ah_ne hxx hcl rfl) (ah_ne hxx hcp rfl))).trans hxx
  have hG4 : F2 b = some (.inr (0, [.ref ra, .int (nI n), .int (nI pr)])) := (hy6 b (ah_nin3 (ah_ne hbk hch rfl) (ah_ne hbk hcl rfl) (ah_ne hbk hcp rfl))).trans hbk
  have hG5 : F2 ra = some (ah_aq D 40 rf) := (hy6 ra (ah_nin3 (ah_ne hra hch rfl) (ah_ne hra hcl rfl) (ah_ne hra hcp rfl))).trans hra
  have hG6 : F2 st = some (.inr (3, [.ref la, .int (nI S.length)])) := (hy6 st (ah_nin3 (ah_ne hst hch rfl) (ah_ne hst hcl rfl) (ah_ne hst hcp rfl))).trans hst
  have hG7 : F2 la = some (ah_al D 201 lf) := (hy6 la (ah_nin3 (ah_ne hla hch rfl) (ah_ne hla hcl rfl) (ah_ne hla hcp rfl))).trans hla
  have hG8 : F2 tx = some (.inr (4, [.ref ta, .int (nI tc)])) := (hy6 tx (ah_nin3 (ah_ne htx hch rfl) (ah_ne htx hcl rfl) (ah_ne htx hcp rfl))).trans htx
  have hG9 : F2 ta = some (ah_ac D 1600 tf) := (hy6 ta (ah_nin3 (ah_ne hta hch rfl) (ah_ne hta hcl rfl) (ah_ne hta hcp rfl))).trans hta
  have hG10 : F2 dw = some (.inr (5, [.long (lN (ah_enc dr)), .int (nI dr.length)])) := (hy6 dw (ah_nin3 (ah_ne hdw hch rfl) (ah_ne hdw hcl rfl) (ah_ne hdw hcp rfl))).trans hdw
  have hC11 : ah_ch F F2 [ch, cl, cp] := hy6
  have hchn := ah_chs_chn (S := S) (hrows.ok hP40) ru
  have hrows2 : ah_rows F2 rf P := (hrows.fr hC11 (ah_all3 (ah_nr_t hch rfl rfl) (ah_nr_t hcl rfl rfl) (ah_nr_t hcp rfl rfl)))
  refine lv_aload_n hx hb dX6_chosen_20 rfl (lv_at hl 0 rfl) ?_
  refine gf_Aho_26 E hP hG3 rfl dX6_chosen_21 ?_
  refine gf_Aho_181 E hP hy1 rfl dX6_chosen_24 ?_
  rw [hQ]
  exact ah_iret E hr hP hS ⟨rfl, ⟨b, ra, st, la, ch, cp, cl, tx, ta, dw, _, _, _, _, _, _, _, _, hG3, hG4, hG5, (hrows.fr hC11 (ah_all3 (ah_nr_t hch rfl rfl) (ah_nr_t hcl rfl rfl) (ah_nr_t hcp rfl rfl))), hG6, hG7, hstr, hy1, hy2, hy3, hG8, hG9, hG10, hdok, hn40, hPn, hpr, hpr20⟩, (ah_out_c hC11 (ah_all3 (ah_no_t hch rfl) (ah_no_t hcl rfl) (ah_no_t hcp rfl)))⟩ (Nat.le_of_ble_eq_true rfl) (Nat.le_of_ble_eq_true rfl) dX6_chosen_27

set_option maxHeartbeats 4000000 in
set_option maxRecDepth 100000 in
/-- chooseOne -/
theorem z_chooseOne (l : Launch) (A : Nat → Prop) (D : ah_G) (F : ah_F) {x n : Nat} {P : ah_Pt} {dr S : List Nat} {td : Int32} (hC : ah_C D F x P n dr S td) {ru t : Nat} (hru : ru ≤ 2) (ht : t < (ah_chs P S ru).length) : Met l yX6_chooseOne (Cond.code yX6_chooseOne cX6_chooseOne 4 (some (.object "Ahoarch$Pattern")) :: ah_T) { frames := 5, cells := 0, slots := 0, locals := 120 } (va_Pc [.ref x, .int (nI ru), .int (nI t)] (ah_B A D F)) (ah_Qq A D (fun (r : Option Nat) F1 => ∃ (j i q lw lr ch b st tx dw cp cl : Nat) (pf1 : Nat → Option Nat) (lf1 : Nat → Int32), (ah_chs P S ru).length ≤ 200 ∧ (ah_chs P S ru)[t]? = some (j, i) ∧ r = some q ∧ F1 q = some (.inr (2, [.int (nI j), .ref lw, .ref lr])) ∧ F1 x = some (.inr (6, [.ref b, .ref st, .ref ch, .ref tx, .ref dw, .int td])) ∧ F1 ch = some (.inr (1, [.ref cp, .ref cl, .int (nI (ah_chs P S ru).length)])) ∧ F1 cp = some (ah_aq D 200 pf1) ∧ F1 cl = some (ah_ai D 200 lf1) ∧ lf1 t = nI i ∧ ah_C D F1 x P n dr S td ∧ ah_out D F F1)) 0 0 A := by
  refine ah_met (own := "Ahoarch") (by decide) rfl (Nat.le_of_ble_eq_true rfl) ?_
  intro p e s m below meth c ls E hr hini hl hP hS Q hQ
  have hx := E.1
  have hb := E.2.1
  have hl : lv_has ls 4 [(0, .ref x), (1, .int (nI ru)), (2, .int (nI t))] := hl
  obtain ⟨b, ra, st, la, ch, cp, cl, tx, ta, dw, rf, lf, pf, plf, tf, cc, tc, pr, hxx, hbk, hra, hrows, hst, hla, hstr, hch, hcp, hcl, htx, hta, hdw, hdok, hn40, hPn, hpr, hpr20⟩ := id hC
  obtain ⟨hS1, hS2, hS3⟩ := id hstr
  have hP40 : ∀ i, 40 ≤ i → P i = none := fun i hi => hPn i (by omega)
  refine lv_iload_n hx hb dX6_chooseOne_0 rfl (lv_at hl 1 rfl) ?_
  refine ah_callv (ah_runS E hP hS (As := [.int (nI ru)]) (rest := []) (z_needRule l A D _ hru) lk_Aho_183 li_Aho_183 ⟨rfl, rfl, (Nat.le_of_ble_eq_true rfl), (Nat.le_of_ble_eq_true rfl)⟩ rfl hl.1 rfl (Nat.le_of_ble_eq_true rfl) dX6_chooseOne_1 ⟨(Nat.le_of_ble_eq_true rfl), (Nat.le_of_ble_eq_true rfl)⟩) hS (fun F1 H locs hq hP hS => ?_)
  obtain rfl := hq
  refine lv_aload_n hx hb dX6_chooseOne_4 rfl (lv_at hl 0 rfl) ?_
  refine gf_Aho_26 E hP hxx rfl dX6_chooseOne_5 ?_
  refine lv_iload_n hx hb dX6_chooseOne_8 rfl (lv_at hl 1 rfl) ?_
  refine lv_aload_n hx hb dX6_chooseOne_9 rfl (lv_at hl 0 rfl) ?_
  refine gf_Aho_10 E hP hxx rfl dX6_chooseOne_10 ?_
  refine lv_aload_n hx hb dX6_chooseOne_13 rfl (lv_at hl 0 rfl) ?_
  refine gf_Aho_19 E hP hxx rfl dX6_chooseOne_14 ?_
  refine ah_callv (ah_runV E hP hS (As := [.int (nI ru), .ref b, .ref st]) (rest := []) (b := ch) (c_Choice_choose l A D _ hch hcp hcl hbk hra hrows hst hla hstr (ru := ru) (by omega)) lk_Aho_177 li_Aho_177 hch rfl ⟨rfl, rfl, (Nat.le_of_ble_eq_true rfl), (Nat.le_of_ble_eq_true rfl)⟩ rfl hl.1 rfl (Nat.le_of_ble_eq_true rfl) dX6_chooseOne_17 ⟨(Nat.le_of_ble_eq_true rfl), (Nat.le_of_ble_eq_true rfl)⟩) hS (fun F2 H locs hcz hP hS => ?_)
  obtain ⟨pf2, lf2, hy1, hy2, hy3, hcho, hcl200, hy6⟩ := hcz
  have hG3 : F2 x = some (.inr (6, [.ref b, .ref st, .ref ch, .ref tx, .ref dw, .int td])) := (hy6 x (ah_nin3 (ah_ne hxx hch rfl) (ah_ne hxx hcl rfl) (ah_ne hxx hcp rfl))).trans hxx
  have hG4 : F2 b = some (.inr (0, [.ref ra, .int (nI n), .int (nI pr)])) := (hy6 b (ah_nin3 (ah_ne hbk hch rfl) (ah_ne hbk hcl rfl) (ah_ne hbk hcp rfl))).trans hbk
  have hG5 : F2 ra = some (ah_aq D 40 rf) := (hy6 ra (ah_nin3 (ah_ne hra hch rfl) (ah_ne hra hcl rfl) (ah_ne hra hcp rfl))).trans hra
  have hG6 : F2 st = some (.inr (3, [.ref la, .int (nI S.length)])) := (hy6 st (ah_nin3 (ah_ne hst hch rfl) (ah_ne hst hcl rfl) (ah_ne hst hcp rfl))).trans hst
  have hG7 : F2 la = some (ah_al D 201 lf) := (hy6 la (ah_nin3 (ah_ne hla hch rfl) (ah_ne hla hcl rfl) (ah_ne hla hcp rfl))).trans hla
  have hG8 : F2 tx = some (.inr (4, [.ref ta, .int (nI tc)])) := (hy6 tx (ah_nin3 (ah_ne htx hch rfl) (ah_ne htx hcl rfl) (ah_ne htx hcp rfl))).trans htx
  have hG9 : F2 ta = some (ah_ac D 1600 tf) := (hy6 ta (ah_nin3 (ah_ne hta hch rfl) (ah_ne hta hcl rfl) (ah_ne hta hcp rfl))).trans hta
  have hG10 : F2 dw = some (.inr (5, [.long (lN (ah_enc dr)), .int (nI dr.length)])) := (hy6 dw (ah_nin3 (ah_ne hdw hch rfl) (ah_ne hdw hcl rfl) (ah_ne hdw hcp rfl))).trans hdw
  have hC11 : ah_ch F F2 [ch, cl, cp] := hy6
  have hchn := ah_chs_chn (S := S) (hrows.ok hP40) ru
  have hrows2 : ah_rows F2 rf P := (hrows.fr hC11 (ah_all3 (ah_nr_t hch rfl rfl) (ah_nr_t hcl rfl rfl) (ah_nr_t hcp rfl rfl)))
  refine lv_aload_n hx hb dX6_chooseOne_20 rfl (lv_at hl 0 rfl) ?_
  refine gf_Aho_26 E hP hG3 rfl dX6_chooseOne_21 ?_
  refine lv_iload_n hx hb dX6_chooseOne_24 rfl (lv_at hl 2 rfl) ?_
  refine ah_callq (ah_runV E hP hS (As := [.int (nI t)]) (rest := []) (b := ch) (c_Choice_patternAt l A D _ hy1 hy2 hy3 (by omega)) lk_Aho_224 li_Aho_224 hy1 rfl ⟨rfl, rfl, (Nat.le_of_ble_eq_true rfl), (Nat.le_of_ble_eq_true rfl)⟩ rfl hl.1 rfl (Nat.le_of_ble_eq_true rfl) dX6_chooseOne_25 ⟨(Nat.le_of_ble_eq_true rfl), (Nat.le_of_ble_eq_true rfl)⟩) hS (fun r F12 H locs hq hP hS => ?_)
  obtain ⟨rfl, rfl⟩ := hq
  cases hq : (ah_ixn (ah_chs P S ru).length (nI t)).bind pf2 with
  | none =>
    refine lv_astore_nN (lv' := [(3, .null), (0, .ref x), (1, .int (nI ru)), (2, .int (nI t))]) hx hb dX6_chooseOne_28 rfl hl (by decide) rfl (fun ls hl => ?_)
    refine lv_aload_nN hx hb dX6_chooseOne_29 rfl (lv_at hl 0 rfl) ?_
    refine lv_ifnonnullN hx hb dX6_chooseOne_30 ?_
    exact absurd (ah_pick_n hcho hrows2 hchn hq) (by rw [ah_ixn_in ht (by omega)]; exact fun e => by cases e)
  | some q =>
    obtain ⟨t2, j, i, w, r0, lw, lr, hix, htl, hvt, hLt, hlf, hj, hPj, hqo, hlw, hlr, hok, hokr, hne⟩ := ah_pick_s hcho hrows2 hchn hq
    rw [ah_ixn_in ht (by omega)] at hix
    cases hix
    refine lv_astore_n (lv' := [(3, .ref q), (0, .ref x), (1, .int (nI ru)), (2, .int (nI t))]) hx hb dX6_chooseOne_28 rfl hl (by decide) rfl (fun ls hl => ?_)
    refine lv_aload_n hx hb dX6_chooseOne_29 rfl (lv_at hl 0 rfl) ?_
    refine lv_ifnonnull (tgt := 43) hx hb dX6_chooseOne_30 (by decide) ?_
    refine lv_aload_n hx hb dX6_chooseOne_43 rfl (lv_at hl 0 rfl) ?_
    rw [hQ]
    exact ah_qret (v := some q) E hr hP hS ⟨j, i, q, lw, lr, ch, b, st, tx, dw, cp, cl, pf2, lf2, by omega, hLt, rfl, hqo, hG3, hy1, hy2, hy3, hlf, ⟨b, ra, st, la, ch, cp, cl, tx, ta, dw, _, _, _, _, _, _, _, _, hG3, hG4, hG5, (hrows.fr hC11 (ah_all3 (ah_nr_t hch rfl rfl) (ah_nr_t hcl rfl rfl) (ah_nr_t hcp rfl rfl))), hG6, hG7, hstr, hy1, hy2, hy3, hG8, hG9, hG10, hdok, hn40, hPn, hpr, hpr20⟩, (ah_out_c hC11 (ah_all3 (ah_no_t hch rfl) (ah_no_t hcl rfl) (ah_no_t hcp rfl)))⟩ (Nat.le_of_ble_eq_true rfl) (Nat.le_of_ble_eq_true rfl) dX6_chooseOne_44

set_option maxHeartbeats 4000000 in
set_option maxRecDepth 100000 in
/-- chosenPattern -/
theorem z_chosenPattern (l : Launch) (A : Nat → Prop) (D : ah_G) (F : ah_F) {x n : Nat} {P : ah_Pt} {dr S : List Nat} {td : Int32} (hC : ah_C D F x P n dr S td) {ru t j i : Nat} (hru : ru ≤ 2) (hLt : (ah_chs P S ru)[t]? = some (j, i)) : Met l yX6_chosenPattern (Cond.code yX6_chosenPattern cX6_chosenPattern 3 (some .int) :: ah_T) { frames := 6, cells := 0, slots := 0, locals := 143 } (va_Pc [.ref x, .int (nI ru), .int (nI t)] (ah_B A D F)) (ah_Qi A D (fun (r : Int32) F1 => nI j = r ∧ ah_C D F1 x P n dr S td ∧ ah_out D F F1)) 0 0 A := by
  refine ah_met (own := "Ahoarch") (by decide) rfl (Nat.le_of_ble_eq_true rfl) ?_
  intro p e s m below meth c ls E hr hini hl hP hS Q hQ
  have hx := E.1
  have hb := E.2.1
  have hl : lv_has ls 3 [(0, .ref x), (1, .int (nI ru)), (2, .int (nI t))] := hl
  obtain ⟨b, ra, st, la, ch, cp, cl, tx, ta, dw, rf, lf, pf, plf, tf, cc, tc, pr, hxx, hbk, hra, hrows, hst, hla, hstr, hch, hcp, hcl, htx, hta, hdw, hdok, hn40, hPn, hpr, hpr20⟩ := id hC
  obtain ⟨hS1, hS2, hS3⟩ := id hstr
  have hP40 : ∀ i, 40 ≤ i → P i = none := fun i hi => hPn i (by omega)
  have htl : t < (ah_chs P S ru).length := (List.getElem?_eq_some_iff.mp hLt).1
  refine lv_aload_n hx hb dX6_chosenPattern_0 rfl (lv_at hl 0 rfl) ?_
  refine lv_iload_n hx hb dX6_chosenPattern_1 rfl (lv_at hl 1 rfl) ?_
  refine lv_iload_n hx hb dX6_chosenPattern_2 rfl (lv_at hl 2 rfl) ?_
  refine ah_callq (ah_runV E hP hS (As := [.int (nI ru), .int (nI t)]) (rest := []) (b := x) (z_chooseOne l A D _ hC hru htl) lk_Aho_186 li_Aho_186 hxx rfl ⟨rfl, rfl, (Nat.le_of_ble_eq_true rfl), (Nat.le_of_ble_eq_true rfl)⟩ rfl hl.1 rfl (Nat.le_of_ble_eq_true rfl) dX6_chosenPattern_3 ⟨(Nat.le_of_ble_eq_true rfl), (Nat.le_of_ble_eq_true rfl)⟩) hS (fun r F1 H locs hco hP hS => ?_)
  obtain ⟨j2, i2, q, lw, lr, ch, b, st, tx, dw, cp, cl, pf1, lf1, hl2, hLt2, hrq, hqo, hx1, hch1, hcp1, hcl1, hlf, hC1, ho1⟩ := hco
  rw [hLt] at hLt2
  cases hLt2
  subst hrq
  refine gf_Aho_161 E hP hqo rfl dX6_chosenPattern_6 ?_
  rw [hQ]
  exact ah_iret E hr hP hS ⟨rfl, hC1, ho1⟩ (Nat.le_of_ble_eq_true rfl) (Nat.le_of_ble_eq_true rfl) dX6_chosenPattern_9

set_option maxHeartbeats 4000000 in
set_option maxRecDepth 100000 in
/-- chosenPlace -/
theorem z_chosenPlace (l : Launch) (A : Nat → Prop) (D : ah_G) (F : ah_F) {x n : Nat} {P : ah_Pt} {dr S : List Nat} {td : Int32} (hC : ah_C D F x P n dr S td) {ru t j i : Nat} (hru : ru ≤ 2) (hLt : (ah_chs P S ru)[t]? = some (j, i)) : Met l yX6_chosenPlace (Cond.code yX6_chosenPlace cX6_chosenPlace 3 (some .int) :: ah_T) { frames := 6, cells := 0, slots := 0, locals := 143 } (va_Pc [.ref x, .int (nI ru), .int (nI t)] (ah_B A D F)) (ah_Qi A D (fun (r : Int32) F1 => nI i = r ∧ ah_C D F1 x P n dr S td ∧ ah_out D F F1)) 0 0 A := by
  refine ah_met (own := "Ahoarch") (by decide) rfl (Nat.le_of_ble_eq_true rfl) ?_
  intro p e s m below meth c ls E hr hini hl hP hS Q hQ
  have hx := E.1
  have hb := E.2.1
  have hl : lv_has ls 3 [(0, .ref x), (1, .int (nI ru)), (2, .int (nI t))] := hl
  obtain ⟨b, ra, st, la, ch, cp, cl, tx, ta, dw, rf, lf, pf, plf, tf, cc, tc, pr, hxx, hbk, hra, hrows, hst, hla, hstr, hch, hcp, hcl, htx, hta, hdw, hdok, hn40, hPn, hpr, hpr20⟩ := id hC
  obtain ⟨hS1, hS2, hS3⟩ := id hstr
  have hP40 : ∀ i, 40 ≤ i → P i = none := fun i hi => hPn i (by omega)
  have htl : t < (ah_chs P S ru).length := (List.getElem?_eq_some_iff.mp hLt).1
  refine lv_aload_n hx hb dX6_chosenPlace_0 rfl (lv_at hl 0 rfl) ?_
  refine lv_iload_n hx hb dX6_chosenPlace_1 rfl (lv_at hl 1 rfl) ?_
  refine lv_iload_n hx hb dX6_chosenPlace_2 rfl (lv_at hl 2 rfl) ?_
  refine ah_callq (ah_runV E hP hS (As := [.int (nI ru), .int (nI t)]) (rest := []) (b := x) (z_chooseOne l A D _ hC hru htl) lk_Aho_186 li_Aho_186 hxx rfl ⟨rfl, rfl, (Nat.le_of_ble_eq_true rfl), (Nat.le_of_ble_eq_true rfl)⟩ rfl hl.1 rfl (Nat.le_of_ble_eq_true rfl) dX6_chosenPlace_3 ⟨(Nat.le_of_ble_eq_true rfl), (Nat.le_of_ble_eq_true rfl)⟩) hS (fun r F1 H locs hco hP hS => ?_)
  obtain ⟨j2, i2, q, lw, lr, ch, b, st, tx, dw, cp, cl, pf1, lf1, hl2, hLt2, hrq, hqo, hx1, hch1, hcp1, hcl1, hlf, hC1, ho1⟩ := hco
  rw [hLt] at hLt2
  cases hLt2
  subst hrq
  refine lv_pop hx hb dX6_chosenPlace_6 rfl ?_
  refine lv_aload_n hx hb dX6_chosenPlace_7 rfl (lv_at hl 0 rfl) ?_
  refine gf_Aho_26 E hP hx1 rfl dX6_chosenPlace_8 ?_
  refine lv_iload_n hx hb dX6_chosenPlace_11 rfl (lv_at hl 2 rfl) ?_
  refine ah_calli (ah_runV E hP hS (As := [.int (nI t)]) (rest := []) (b := ch) (c_Choice_placeAt l A D _ hch1 hcp1 hcl1 hl2 htl) lk_Aho_190 li_Aho_190 hch1 rfl ⟨rfl, rfl, (Nat.le_of_ble_eq_true rfl), (Nat.le_of_ble_eq_true rfl)⟩ rfl hl.1 rfl (Nat.le_of_ble_eq_true rfl) dX6_chosenPlace_12 ⟨(Nat.le_of_ble_eq_true rfl), (Nat.le_of_ble_eq_true rfl)⟩) hS (fun r F2 H locs hq hP hS => ?_)
  obtain ⟨rfl, hpl⟩ := hq
  rw [hlf] at hpl
  subst hpl
  rw [hQ]
  exact ah_iret E hr hP hS ⟨rfl, hC1, ho1⟩ (Nat.le_of_ble_eq_true rfl) (Nat.le_of_ble_eq_true rfl) dX6_chosenPlace_15

set_option maxHeartbeats 4000000 in
set_option maxRecDepth 100000 in
/-- replacedLength -/
theorem z_replacedLength (l : Launch) (A : Nat → Prop) (D : ah_G) (F : ah_F) {x n : Nat} {P : ah_Pt} {dr S : List Nat} {td : Int32} (hC : ah_C D F x P n dr S td) {ru : Nat} (hru : ru ≤ 2) : Met l yX6_replacedLength (Cond.code yX6_replacedLength cX6_replacedLength 2 (some .int) :: ah_T) { frames := 6, cells := 0, slots := 0, locals := 144 } (va_Pc [.ref x, .int (nI ru)] (ah_B A D F)) (ah_Qi A D (fun (r : Int32) F1 => nI (ah_tx P S (ah_chs P S ru)).length = r ∧ ah_C D F1 x P n dr S td ∧ ah_out D F F1)) 0 0 A := by
  refine ah_met (own := "Ahoarch") (by decide) rfl (Nat.le_of_ble_eq_true rfl) ?_
  intro p e s m below meth c ls E hr hini hl hP hS Q hQ
  have hx := E.1
  have hb := E.2.1
  have hl : lv_has ls 2 [(0, .ref x), (1, .int (nI ru))] := hl
  obtain ⟨b, ra, st, la, ch, cp, cl, tx, ta, dw, rf, lf, pf, plf, tf, cc, tc, pr, hxx, hbk, hra, hrows, hst, hla, hstr, hch, hcp, hcl, htx, hta, hdw, hdok, hn40, hPn, hpr, hpr20⟩ := id hC
  obtain ⟨hS1, hS2, hS3⟩ := id hstr
  have hP40 : ∀ i, 40 ≤ i → P i = none := fun i hi => hPn i (by omega)
  refine lv_iload_n hx hb dX6_replacedLength_0 rfl (lv_at hl 1 rfl) ?_
  refine ah_callv (ah_runS E hP hS (As := [.int (nI ru)]) (rest := []) (z_needRule l A D _ hru) lk_Aho_183 li_Aho_183 ⟨rfl, rfl, (Nat.le_of_ble_eq_true rfl), (Nat.le_of_ble_eq_true rfl)⟩ rfl hl.1 rfl (Nat.le_of_ble_eq_true rfl) dX6_replacedLength_1 ⟨(Nat.le_of_ble_eq_true rfl), (Nat.le_of_ble_eq_true rfl)⟩) hS (fun F1 H locs hq hP hS => ?_)
  obtain rfl := hq
  refine lv_aload_n hx hb dX6_replacedLength_4 rfl (lv_at hl 0 rfl) ?_
  refine lv_iload_n hx hb dX6_replacedLength_5 rfl (lv_at hl 1 rfl) ?_
  refine ah_callv (ah_runV E hP hS (As := [.int (nI ru)]) (rest := []) (b := x) (c_rewrite l A D _ hC hru) lk_Aho_194 li_Aho_194 hxx rfl ⟨rfl, rfl, (Nat.le_of_ble_eq_true rfl), (Nat.le_of_ble_eq_true rfl)⟩ rfl hl.1 rfl (Nat.le_of_ble_eq_true rfl) dX6_replacedLength_6 ⟨(Nat.le_of_ble_eq_true rfl), (Nat.le_of_ble_eq_true rfl)⟩) hS (fun F2 H locs hrw hP hS => ?_)
  obtain ⟨b9, st9, ch9, tx9, dw9, ta9, tf9, hx9, htx9, hta9, htt9, hC9, ho9⟩ := hrw
  have htl9 := htt9.1
  refine lv_aload_n hx hb dX6_replacedLength_9 rfl (lv_at hl 0 rfl) ?_
  refine gf_Aho_33 E hP hx9 rfl dX6_replacedLength_10 ?_
  refine gf_Aho_197 E hP htx9 rfl dX6_replacedLength_13 ?_
  rw [hQ]
  exact ah_iret E hr hP hS ⟨rfl, hC9, ho9⟩ (Nat.le_of_ble_eq_true rfl) (Nat.le_of_ble_eq_true rfl) dX6_replacedLength_16

set_option maxHeartbeats 4000000 in
set_option maxRecDepth 100000 in
/-- replaced -/
theorem z_replaced (l : Launch) (A : Nat → Prop) (D : ah_G) (F : ah_F) {x n : Nat} {P : ah_Pt} {dr S : List Nat} {td : Int32} (hC : ah_C D F x P n dr S td) {ru k : Nat} (hru : ru ≤ 2) (hk : k < (ah_tx P S (ah_chs P S ru)).length) : Met l yX6_replaced (Cond.code yX6_replaced cX6_replaced 3 (some .char) :: ah_T) { frames := 6, cells := 0, slots := 0, locals := 144 } (va_Pc [.ref x, .int (nI ru), .int (nI k)] (ah_B A D F)) (ah_Qi A D (fun (r : Int32) F1 => nI (96 + (ah_tx P S (ah_chs P S ru)).getD k 0) = r ∧ ah_C D F1 x P n dr S td ∧ ah_out D F F1)) 0 0 A := by
  refine ah_met (own := "Ahoarch") (by decide) rfl (Nat.le_of_ble_eq_true rfl) ?_
  intro p e s m below meth c ls E hr hini hl hP hS Q hQ
  have hx := E.1
  have hb := E.2.1
  have hl : lv_has ls 3 [(0, .ref x), (1, .int (nI ru)), (2, .int (nI k))] := hl
  obtain ⟨b, ra, st, la, ch, cp, cl, tx, ta, dw, rf, lf, pf, plf, tf, cc, tc, pr, hxx, hbk, hra, hrows, hst, hla, hstr, hch, hcp, hcl, htx, hta, hdw, hdok, hn40, hPn, hpr, hpr20⟩ := id hC
  obtain ⟨hS1, hS2, hS3⟩ := id hstr
  have hP40 : ∀ i, 40 ≤ i → P i = none := fun i hi => hPn i (by omega)
  refine lv_iload_n hx hb dX6_replaced_0 rfl (lv_at hl 1 rfl) ?_
  refine ah_callv (ah_runS E hP hS (As := [.int (nI ru)]) (rest := []) (z_needRule l A D _ hru) lk_Aho_183 li_Aho_183 ⟨rfl, rfl, (Nat.le_of_ble_eq_true rfl), (Nat.le_of_ble_eq_true rfl)⟩ rfl hl.1 rfl (Nat.le_of_ble_eq_true rfl) dX6_replaced_1 ⟨(Nat.le_of_ble_eq_true rfl), (Nat.le_of_ble_eq_true rfl)⟩) hS (fun F1 H locs hq hP hS => ?_)
  obtain rfl := hq
  refine lv_aload_n hx hb dX6_replaced_4 rfl (lv_at hl 0 rfl) ?_
  refine lv_iload_n hx hb dX6_replaced_5 rfl (lv_at hl 1 rfl) ?_
  refine ah_callv (ah_runV E hP hS (As := [.int (nI ru)]) (rest := []) (b := x) (c_rewrite l A D _ hC hru) lk_Aho_194 li_Aho_194 hxx rfl ⟨rfl, rfl, (Nat.le_of_ble_eq_true rfl), (Nat.le_of_ble_eq_true rfl)⟩ rfl hl.1 rfl (Nat.le_of_ble_eq_true rfl) dX6_replaced_6 ⟨(Nat.le_of_ble_eq_true rfl), (Nat.le_of_ble_eq_true rfl)⟩) hS (fun F2 H locs hrw hP hS => ?_)
  obtain ⟨b9, st9, ch9, tx9, dw9, ta9, tf9, hx9, htx9, hta9, htt9, hC9, ho9⟩ := hrw
  have htl9 := htt9.1
  refine lv_iload_n hx hb dX6_replaced_9 rfl (lv_at hl 2 rfl) ?_
  refine ah_if_lt (tgt := 24) hx hb (by omega) dX6_replaced_10 (by decide) ?_
  refine lv_iload_n hx hb dX6_replaced_13 rfl (lv_at hl 2 rfl) ?_
  refine lv_aload_n hx hb dX6_replaced_14 rfl (lv_at hl 0 rfl) ?_
  refine gf_Aho_33 E hP hx9 rfl dX6_replaced_15 ?_
  refine gf_Aho_197 E hP htx9 rfl dX6_replaced_18 ?_
  refine ah_icmp_lt (tgt := 34) hx hb (by omega) (by omega) dX6_replaced_21 (by decide) (fun hc21 => ?_) (fun hc21 => ?_)
  · skip
    have hlet : ∀ i, i < (ah_tx P S (ah_chs P S ru)).length → (ah_tx P S (ah_chs P S ru)).getD i 0 ≤ 31 := fun i hi => by rw [List.getD_eq_getElem?_getD, List.getElem?_eq_getElem hi]; have := ah_tx_lt (hrows.ok hP40) hS2 (ah_chs_chn (S := S) (hrows.ok hP40) ru) _ (List.getElem_mem hi); show (ah_tx P S (ah_chs P S ru))[i] ≤ 31; omega
    refine lv_aload_n hx hb dX6_replaced_34 rfl (lv_at hl 0 rfl) ?_
    refine gf_Aho_33 E hP hx9 rfl dX6_replaced_35 ?_
    refine lv_iload_n hx hb dX6_replaced_38 rfl (lv_at hl 2 rfl) ?_
    refine ah_calli (ah_runV E hP hS (As := [.int (nI k)]) (rest := []) (b := tx9) (c_Text_letterAt l A D _ htx9 hta9 htt9 hk hlet) lk_Aho_200 li_Aho_200 htx9 rfl ⟨rfl, rfl, (Nat.le_of_ble_eq_true rfl), (Nat.le_of_ble_eq_true rfl)⟩ rfl hl.1 rfl (Nat.le_of_ble_eq_true rfl) dX6_replaced_39 ⟨(Nat.le_of_ble_eq_true rfl), (Nat.le_of_ble_eq_true rfl)⟩) hS (fun r F3 H locs hq hP hS => ?_)
    obtain ⟨rfl, rfl⟩ := hq
    rw [hQ]
    exact ah_zret E hr (pk_charN (by have := hlet k hk; omega)).1 hP hS ⟨rfl, hC9, ho9⟩ (Nat.le_of_ble_eq_true rfl) (Nat.le_of_ble_eq_true rfl) dX6_replaced_42
  · skip
    exact absurd hk (by omega)
